theorem dL_cellHolds_268 : decode cL_cellHolds 268 = .ok (.ifCond .eq 130, 3) := by decide +kernel
theorem dL_cellHolds_271 : decode cL_cellHolds 271 = .ok (.aload_n 0, 1) := by decide +kernel
theorem dL_cellHolds_272 : decode cL_cellHolds 272 = .ok (.iload_n 1, 1) := by decide +kernel
theorem dL_cellHolds_273 : decode cL_cellHolds 273 = .ok (.iload 7, 2) := by decide +kernel
theorem dL_cellHolds_275 : decode cL_cellHolds 275 = .ok (.invokestatic 106, 3) := by decide +kernel
theorem dL_cellHolds_278 : decode cL_cellHolds 278 = .ok (.lstore 8, 2) := by decide +kernel
theorem dL_cellHolds_280 : decode cL_cellHolds 280 = .ok (.iload 6, 2) := by decide +kernel
theorem dL_cellHolds_282 : decode cL_cellHolds 282 = .ok (.lload 8, 2) := by decide +kernel
theorem dL_cellHolds_284 : decode cL_cellHolds 284 = .ok (.lconst 0, 1) := by decide +kernel
theorem dL_cellHolds_285 : decode cL_cellHolds 285 = .ok (.lcmp, 1) := by decide +kernel
theorem dL_cellHolds_286 : decode cL_cellHolds 286 = .ok (.ifCond .lt 7, 3) := by decide +kernel
theorem dL_cellHolds_289 : decode cL_cellHolds 289 = .ok (.iconst 1, 1) := by decide +kernel
theorem dL_cellHolds_290 : decode cL_cellHolds 290 = .ok (.goto 4, 3) := by decide +kernel
theorem dL_cellHolds_293 : decode cL_cellHolds 293 = .ok (.iconst 0, 1) := by decide +kernel
theorem dL_cellHolds_294 : decode cL_cellHolds 294 = .ok (.iadd, 1) := by decide +kernel
theorem dL_cellHolds_295 : decode cL_cellHolds 295 = .ok (.istore 6, 2) := by decide +kernel
theorem dL_cellHolds_297 : decode cL_cellHolds 297 = .ok (.lload 8, 2) := by decide +kernel
theorem dL_cellHolds_299 : decode cL_cellHolds 299 = .ok (.lconst 0, 1) := by decide +kernel
theorem dL_cellHolds_300 : decode cL_cellHolds 300 = .ok (.lcmp, 1) := by decide +kernel
theorem dL_cellHolds_301 : decode cL_cellHolds 301 = .ok (.ifCond .ge 17, 3) := by decide +kernel
theorem dL_cellHolds_304 : decode cL_cellHolds 304 = .ok (.iload 7, 2) := by decide +kernel
theorem dL_cellHolds_306 : decode cL_cellHolds 306 = .ok (.iconst 1, 1) := by decide +kernel
theorem dL_cellHolds_307 : decode cL_cellHolds 307 = .ok (.if_icmp .le 7, 3) := by decide +kernel
theorem dL_cellHolds_310 : decode cL_cellHolds 310 = .ok (.iconst 1, 1) := by decide +kernel
theorem dL_cellHolds_311 : decode cL_cellHolds 311 = .ok (.goto 64, 3) := by decide +kernel
theorem dL_cellHolds_314 : decode cL_cellHolds 314 = .ok (.iconst 0, 1) := by decide +kernel
theorem dL_cellHolds_315 : decode cL_cellHolds 315 = .ok (.goto 60, 3) := by decide +kernel
theorem dL_cellHolds_318 : decode cL_cellHolds 318 = .ok (.lload 8, 2) := by decide +kernel
theorem dL_cellHolds_320 : decode cL_cellHolds 320 = .ok (.lload 4, 2) := by decide +kernel
theorem dL_cellHolds_322 : decode cL_cellHolds 322 = .ok (.lcmp, 1) := by decide +kernel
theorem dL_cellHolds_323 : decode cL_cellHolds 323 = .ok (.ifCond .le 51, 3) := by decide +kernel
theorem dL_cellHolds_326 : decode cL_cellHolds 326 = .ok (.aload_n 0, 1) := by decide +kernel
theorem dL_cellHolds_327 : decode cL_cellHolds 327 = .ok (.iload_n 1, 1) := by decide +kernel
theorem dL_cellHolds_328 : decode cL_cellHolds 328 = .ok (.iconst 1, 1) := by decide +kernel
theorem dL_cellHolds_329 : decode cL_cellHolds 329 = .ok (.invokestatic 81, 3) := by decide +kernel
theorem dL_cellHolds_332 : decode cL_cellHolds 332 = .ok (.lconst 0, 1) := by decide +kernel
theorem dL_cellHolds_333 : decode cL_cellHolds 333 = .ok (.lcmp, 1) := by decide +kernel
theorem dL_cellHolds_334 : decode cL_cellHolds 334 = .ok (.ifCond .eq 36, 3) := by decide +kernel
theorem dL_cellHolds_337 : decode cL_cellHolds 337 = .ok (.aload_n 0, 1) := by decide +kernel
theorem dL_cellHolds_338 : decode cL_cellHolds 338 = .ok (.lload 8, 2) := by decide +kernel
theorem dL_cellHolds_340 : decode cL_cellHolds 340 = .ok (.l2i, 1) := by decide +kernel
theorem dL_cellHolds_341 : decode cL_cellHolds 341 = .ok (.iconst 1, 1) := by decide +kernel
theorem dL_cellHolds_342 : decode cL_cellHolds 342 = .ok (.invokestatic 81, 3) := by decide +kernel
theorem dL_cellHolds_345 : decode cL_cellHolds 345 = .ok (.lconst 0, 1) := by decide +kernel
theorem dL_cellHolds_346 : decode cL_cellHolds 346 = .ok (.lcmp, 1) := by decide +kernel
theorem dL_cellHolds_347 : decode cL_cellHolds 347 = .ok (.ifCond .eq 23, 3) := by decide +kernel
theorem dL_cellHolds_350 : decode cL_cellHolds 350 = .ok (.aload_n 0, 1) := by decide +kernel
theorem dL_cellHolds_351 : decode cL_cellHolds 351 = .ok (.iload_n 1, 1) := by decide +kernel
theorem dL_cellHolds_352 : decode cL_cellHolds 352 = .ok (.bipush 6, 2) := by decide +kernel
theorem dL_cellHolds_354 : decode cL_cellHolds 354 = .ok (.invokestatic 81, 3) := by decide +kernel
theorem dL_cellHolds_357 : decode cL_cellHolds 357 = .ok (.aload_n 0, 1) := by decide +kernel
theorem dL_cellHolds_358 : decode cL_cellHolds 358 = .ok (.lload 8, 2) := by decide +kernel
theorem dL_cellHolds_360 : decode cL_cellHolds 360 = .ok (.l2i, 1) := by decide +kernel
theorem dL_cellHolds_361 : decode cL_cellHolds 361 = .ok (.bipush 6, 2) := by decide +kernel
theorem dL_cellHolds_363 : decode cL_cellHolds 363 = .ok (.invokestatic 81, 3) := by decide +kernel
theorem dL_cellHolds_366 : decode cL_cellHolds 366 = .ok (.lcmp, 1) := by decide +kernel
theorem dL_cellHolds_367 : decode cL_cellHolds 367 = .ok (.ifCond .ne 7, 3) := by decide +kernel
theorem dL_cellHolds_370 : decode cL_cellHolds 370 = .ok (.iconst 1, 1) := by decide +kernel
theorem dL_cellHolds_371 : decode cL_cellHolds 371 = .ok (.goto 4, 3) := by decide +kernel
theorem dL_cellHolds_374 : decode cL_cellHolds 374 = .ok (.iconst 0, 1) := by decide +kernel
theorem dL_cellHolds_375 : decode cL_cellHolds 375 = .ok (.istore_n 2, 1) := by decide +kernel
theorem dL_cellHolds_376 : decode cL_cellHolds 376 = .ok (.lload 8, 2) := by decide +kernel
theorem dL_cellHolds_378 : decode cL_cellHolds 378 = .ok (.lconst 0, 1) := by decide +kernel
theorem dL_cellHolds_379 : decode cL_cellHolds 379 = .ok (.lcmp, 1) := by decide +kernel
theorem dL_cellHolds_380 : decode cL_cellHolds 380 = .ok (.ifCond .ge 8, 3) := by decide +kernel
theorem dL_cellHolds_383 : decode cL_cellHolds 383 = .ok (.lload 4, 2) := by decide +kernel
theorem dL_cellHolds_385 : decode cL_cellHolds 385 = .ok (.goto 5, 3) := by decide +kernel
theorem dL_cellHolds_388 : decode cL_cellHolds 388 = .ok (.lload 8, 2) := by decide +kernel
theorem dL_cellHolds_390 : decode cL_cellHolds 390 = .ok (.lstore 4, 2) := by decide +kernel
theorem dL_cellHolds_392 : decode cL_cellHolds 392 = .ok (.iinc 7 1, 3) := by decide +kernel
theorem dL_cellHolds_395 : decode cL_cellHolds 395 = .ok (.goto (-134), 3) := by decide +kernel
theorem dL_cellHolds_398 : decode cL_cellHolds 398 = .ok (.iload_n 2, 1) := by decide +kernel
theorem dL_cellHolds_399 : decode cL_cellHolds 399 = .ok (.ifCond .eq 26, 3) := by decide +kernel
theorem dL_cellHolds_402 : decode cL_cellHolds 402 = .ok (.iload 6, 2) := by decide +kernel
theorem dL_cellHolds_404 : decode cL_cellHolds 404 = .ok (.iconst 2, 1) := by decide +kernel
theorem dL_cellHolds_405 : decode cL_cellHolds 405 = .ok (.if_icmp .lt 20, 3) := by decide +kernel
theorem dL_cellHolds_408 : decode cL_cellHolds 408 = .ok (.aload_n 0, 1) := by decide +kernel
theorem dL_cellHolds_409 : decode cL_cellHolds 409 = .ok (.iload_n 1, 1) := by decide +kernel
theorem dL_cellHolds_410 : decode cL_cellHolds 410 = .ok (.iconst 4, 1) := by decide +kernel
theorem dL_cellHolds_411 : decode cL_cellHolds 411 = .ok (.invokestatic 106, 3) := by decide +kernel
theorem dL_cellHolds_414 : decode cL_cellHolds 414 = .ok (.ldc2_w 104, 3) := by decide +kernel
theorem dL_cellHolds_417 : decode cL_cellHolds 417 = .ok (.lcmp, 1) := by decide +kernel
theorem dL_cellHolds_418 : decode cL_cellHolds 418 = .ok (.ifCond .ne 7, 3) := by decide +kernel
theorem dL_cellHolds_421 : decode cL_cellHolds 421 = .ok (.iconst 1, 1) := by decide +kernel
theorem dL_cellHolds_422 : decode cL_cellHolds 422 = .ok (.goto 4, 3) := by decide +kernel
theorem dL_cellHolds_425 : decode cL_cellHolds 425 = .ok (.iconst 0, 1) := by decide +kernel
theorem dL_cellHolds_426 : decode cL_cellHolds 426 = .ok (.ireturn, 1) := by decide +kernel
set_option maxRecDepth 20000 in
theorem ggL_claimsHold_L_houseOf : GoodIn wsL_claimsHold wsL_houseOf := goodIn_ca (goodIn_ca (goodIn_r _ [6, 7, 8, 1, 9, 10, 11, 12, 13, 14, 15, 16, 17, 18, 19, 20, 21, 22, 23, 24, 25, 26, 27, 28, 29, 30, 31, 32, 33, 34, 35, 36, 37, 38, 39, 40, 41, 42, 43, 44, 45, 46, 47, 48, 49, 50, 51, 52, 53, 54, 55, 56, 57, 58, 59, 60, 61, 62, 63, 64, 65, 66, 67, 68, 69, 70, 71, 72, 73, 74, 75, 76, 77, 78, 79, 80, 81, 82, 83, 84, 85, 158, 159, 160, 161, 162, 163, 164, 165, 166, 167, 168, 169, 170, 171, 172, 173, 174, 175, 176, 177, 178, 179, 180] (by decide +kernel) (by decide +kernel)) (goodIn_sub (fun _ h => List.mem_cons_of_mem _ (List.mem_append_left _ (List.mem_append_right _ h))) (by decide +kernel))) (goodIn_sub (fun _ h => List.mem_cons_of_mem _ (List.mem_append_right _ h)) (by decide +kernel))
set_option maxRecDepth 20000 in
theorem gL_claimsHold_L_houseOf : GoodIn wsL_claimsHold (va_wsS RL 108 yL_houseOf wsL_houseOf) := goodIn_app (goodIn_of _ (by decide +kernel)) ggL_claimsHold_L_houseOf
set_option maxRecDepth 20000 in
theorem ggL_claimsHold_L_claimOf : GoodIn wsL_claimsHold wsL_claimOf := goodIn_ca (goodIn_r _ [88, 7, 1, 89, 90, 91, 13, 92, 93, 94, 95, 22, 23, 24, 25, 26, 27, 28, 29, 30, 31, 32, 38, 39, 40, 41, 42, 43, 44, 45, 46, 47, 48, 49, 50, 51, 52, 53, 54, 158, 159, 160, 161, 162, 163, 164, 165, 166, 167, 181, 182, 183, 184, 173, 174, 175] (by decide +kernel) (by decide +kernel)) (goodIn_sub (fun _ h => List.mem_cons_of_mem _ (List.mem_append_left _ (List.mem_append_right _ h))) (by decide +kernel))
set_option maxRecDepth 20000 in
theorem gL_claimsHold_L_claimOf : GoodIn wsL_claimsHold (va_wsS RL 110 yL_claimOf wsL_claimOf) := goodIn_app (goodIn_of _ (by decide +kernel)) ggL_claimsHold_L_claimOf
set_option maxRecDepth 20000 in
theorem ggL_claimsHold_X5_month : GoodIn wsL_claimsHold wsX5_month := goodIn_r _ [99, 21, 158, 159, 160, 161, 162, 163, 164, 165, 166, 167] (by decide +kernel) (by decide +kernel)
set_option maxRecDepth 20000 in
theorem gL_claimsHold_X5_month : GoodIn wsL_claimsHold (wsV RL 112 RX5 yX5_month wsX5_month) := goodIn_app (goodIn_of _ (by decide +kernel)) ggL_claimsHold_X5_month
set_option maxRecDepth 20000 in
theorem ggL_claimsHold_L_cellOf : GoodIn wsL_claimsHold wsL_cellOf := goodIn_ca (goodIn_ca (goodIn_r _ [102, 7, 8, 1, 9, 103, 104, 105, 13, 106, 107, 108, 109, 110, 111, 112, 113, 28, 29, 30, 31, 32, 33, 34, 35, 36, 37, 114, 115, 116, 117, 118, 119, 120, 121, 122, 123, 124, 125, 126, 127, 128, 129, 130, 131, 132, 133, 134, 135, 136, 137, 138, 139, 140, 141, 142, 143, 144, 145, 146, 147, 158, 159, 160, 161, 162, 163, 164, 165, 166, 167, 185, 186, 187, 188, 189, 190, 191, 192, 193, 194, 195] (by decide +kernel) (by decide +kernel)) (goodIn_sub (fun _ h => List.mem_cons_of_mem _ (List.mem_append_left _ (List.mem_append_right _ h))) (by decide +kernel))) (goodIn_sub (fun _ h => List.mem_cons_of_mem _ (List.mem_append_right _ h)) (by decide +kernel))
set_option maxRecDepth 20000 in
theorem gL_claimsHold_L_cellOf : GoodIn wsL_claimsHold (va_wsS RL 81 yL_cellOf wsL_cellOf) := goodIn_app (goodIn_of _ (by decide +kernel)) ggL_claimsHold_L_cellOf
set_option maxRecDepth 20000 in
theorem ggL_claimsHold_L_claimAnew : GoodIn wsL_claimsHold wsL_claimAnew := goodIn_ca (goodIn_r _ [150, 7, 1, 151, 152, 153, 13, 154, 93, 94, 155, 156, 157, 22, 23, 24, 25, 26, 27, 28, 29, 30, 31, 32, 38, 39, 40, 41, 42, 43, 44, 45, 46, 47, 48, 49, 50, 51, 52, 53, 54, 55, 56, 57, 58, 59, 60, 61, 62, 63, 64, 65, 66, 20, 67, 68, 69, 70, 71, 72, 73, 17, 18, 74, 75, 76, 77, 78, 79, 80, 81, 82, 83, 84, 85, 158, 159, 160, 161, 162, 163, 164, 165, 166, 167, 181, 182, 183, 184, 173, 174, 175, 168, 169, 170, 171, 172, 176, 177, 178, 179, 180] (by decide +kernel) (by decide +kernel)) (goodIn_sub (fun _ h => List.mem_cons_of_mem _ (List.mem_append_left _ (List.mem_append_right _ h))) (by decide +kernel))
set_option maxRecDepth 20000 in
theorem gL_claimsHold_L_claimAnew : GoodIn wsL_claimsHold (va_wsS RL 116 yL_claimAnew wsL_claimAnew) := goodIn_app (goodIn_of _ (by decide +kernel)) ggL_claimsHold_L_claimAnew
theorem dL_claimsHold_0 : decode cL_claimsHold 0 = .ok (.aload_n 0, 1) := by decide +kernel
theorem dL_claimsHold_1 : decode cL_claimsHold 1 = .ok (.iload_n 1, 1) := by decide +kernel
theorem dL_claimsHold_2 : decode cL_claimsHold 2 = .ok (.iconst 0, 1) := by decide +kernel
theorem dL_claimsHold_3 : decode cL_claimsHold 3 = .ok (.invokestatic 108, 3) := by decide +kernel
theorem dL_claimsHold_6 : decode cL_claimsHold 6 = .ok (.ldc2_w 17, 3) := by decide +kernel
theorem dL_claimsHold_9 : decode cL_claimsHold 9 = .ok (.lcmp, 1) := by decide +kernel
theorem dL_claimsHold_10 : decode cL_claimsHold 10 = .ok (.ifCond .ne 19, 3) := by decide +kernel
theorem dL_claimsHold_13 : decode cL_claimsHold 13 = .ok (.aload_n 0, 1) := by decide +kernel
theorem dL_claimsHold_14 : decode cL_claimsHold 14 = .ok (.iload_n 2, 1) := by decide +kernel
theorem dL_claimsHold_15 : decode cL_claimsHold 15 = .ok (.invokestatic 110, 3) := by decide +kernel
theorem dL_claimsHold_18 : decode cL_claimsHold 18 = .ok (.ldc2_w 17, 3) := by decide +kernel
theorem dL_claimsHold_21 : decode cL_claimsHold 21 = .ok (.lcmp, 1) := by decide +kernel
theorem dL_claimsHold_22 : decode cL_claimsHold 22 = .ok (.ifCond .ne 7, 3) := by decide +kernel
theorem dL_claimsHold_25 : decode cL_claimsHold 25 = .ok (.iconst 1, 1) := by decide +kernel
theorem dL_claimsHold_26 : decode cL_claimsHold 26 = .ok (.goto 4, 3) := by decide +kernel
theorem dL_claimsHold_29 : decode cL_claimsHold 29 = .ok (.iconst 0, 1) := by decide +kernel
theorem dL_claimsHold_30 : decode cL_claimsHold 30 = .ok (.istore_n 3, 1) := by decide +kernel
theorem dL_claimsHold_31 : decode cL_claimsHold 31 = .ok (.iconst 0, 1) := by decide +kernel
theorem dL_claimsHold_32 : decode cL_claimsHold 32 = .ok (.istore 4, 2) := by decide +kernel
theorem dL_claimsHold_34 : decode cL_claimsHold 34 = .ok (.iload 4, 2) := by decide +kernel
theorem dL_claimsHold_36 : decode cL_claimsHold 36 = .ok (.iload_n 1, 1) := by decide +kernel
theorem dL_claimsHold_37 : decode cL_claimsHold 37 = .ok (.if_icmp .ge 107, 3) := by decide +kernel
theorem dL_claimsHold_40 : decode cL_claimsHold 40 = .ok (.iload_n 3, 1) := by decide +kernel
theorem dL_claimsHold_41 : decode cL_claimsHold 41 = .ok (.ifCond .eq 103, 3) := by decide +kernel
theorem dL_claimsHold_44 : decode cL_claimsHold 44 = .ok (.aload_n 0, 1) := by decide +kernel
theorem dL_claimsHold_45 : decode cL_claimsHold 45 = .ok (.iload 4, 2) := by decide +kernel
theorem dL_claimsHold_47 : decode cL_claimsHold 47 = .ok (.iconst 4, 1) := by decide +kernel
theorem dL_claimsHold_48 : decode cL_claimsHold 48 = .ok (.invokestatic 108, 3) := by decide +kernel
theorem dL_claimsHold_51 : decode cL_claimsHold 51 = .ok (.lstore 5, 2) := by decide +kernel
theorem dL_claimsHold_53 : decode cL_claimsHold 53 = .ok (.lload 5, 2) := by decide +kernel
theorem dL_claimsHold_55 : decode cL_claimsHold 55 = .ok (.lconst 0, 1) := by decide +kernel
theorem dL_claimsHold_56 : decode cL_claimsHold 56 = .ok (.lcmp, 1) := by decide +kernel
theorem dL_claimsHold_57 : decode cL_claimsHold 57 = .ok (.ifCond .lt 79, 3) := by decide +kernel
theorem dL_claimsHold_60 : decode cL_claimsHold 60 = .ok (.lload 5, 2) := by decide +kernel
theorem dL_claimsHold_62 : decode cL_claimsHold 62 = .ok (.ldc2_w 102, 3) := by decide +kernel
theorem dL_claimsHold_65 : decode cL_claimsHold 65 = .ok (.lrem, 1) := by decide +kernel
theorem dL_claimsHold_66 : decode cL_claimsHold 66 = .ok (.lconst 0, 1) := by decide +kernel
theorem dL_claimsHold_67 : decode cL_claimsHold 67 = .ok (.lcmp, 1) := by decide +kernel
theorem dL_claimsHold_68 : decode cL_claimsHold 68 = .ok (.ifCond .ne 68, 3) := by decide +kernel
theorem dL_claimsHold_71 : decode cL_claimsHold 71 = .ok (.lload 5, 2) := by decide +kernel
theorem dL_claimsHold_73 : decode cL_claimsHold 73 = .ok (.ldc2_w 102, 3) := by decide +kernel
theorem dL_claimsHold_76 : decode cL_claimsHold 76 = .ok (.aload_n 0, 1) := by decide +kernel
theorem dL_claimsHold_77 : decode cL_claimsHold 77 = .ok (.iload 4, 2) := by decide +kernel
theorem dL_claimsHold_79 : decode cL_claimsHold 79 = .ok (.iconst 2, 1) := by decide +kernel
theorem dL_claimsHold_80 : decode cL_claimsHold 80 = .ok (.invokestatic 108, 3) := by decide +kernel
theorem dL_claimsHold_83 : decode cL_claimsHold 83 = .ok (.lmul, 1) := by decide +kernel
theorem dL_claimsHold_84 : decode cL_claimsHold 84 = .ok (.lcmp, 1) := by decide +kernel
theorem dL_claimsHold_85 : decode cL_claimsHold 85 = .ok (.ifCond .gt 51, 3) := by decide +kernel
theorem dL_claimsHold_88 : decode cL_claimsHold 88 = .ok (.aload_n 0, 1) := by decide +kernel
theorem dL_claimsHold_89 : decode cL_claimsHold 89 = .ok (.iload 4, 2) := by decide +kernel
theorem dL_claimsHold_91 : decode cL_claimsHold 91 = .ok (.iconst 2, 1) := by decide +kernel
theorem dL_claimsHold_92 : decode cL_claimsHold 92 = .ok (.invokestatic 108, 3) := by decide +kernel
theorem dL_claimsHold_95 : decode cL_claimsHold 95 = .ok (.aload_n 0, 1) := by decide +kernel
theorem dL_claimsHold_96 : decode cL_claimsHold 96 = .ok (.invokevirtual 112, 3) := by decide +kernel
theorem dL_claimsHold_99 : decode cL_claimsHold 99 = .ok (.i2l, 1) := by decide +kernel
theorem dL_claimsHold_100 : decode cL_claimsHold 100 = .ok (.aload_n 0, 1) := by decide +kernel
theorem dL_claimsHold_101 : decode cL_claimsHold 101 = .ok (.iload 4, 2) := by decide +kernel
theorem dL_claimsHold_103 : decode cL_claimsHold 103 = .ok (.iconst 3, 1) := by decide +kernel
theorem dL_claimsHold_104 : decode cL_claimsHold 104 = .ok (.invokestatic 108, 3) := by decide +kernel
theorem dL_claimsHold_107 : decode cL_claimsHold 107 = .ok (.lsub, 1) := by decide +kernel
theorem dL_claimsHold_108 : decode cL_claimsHold 108 = .ok (.lcmp, 1) := by decide +kernel
theorem dL_claimsHold_109 : decode cL_claimsHold 109 = .ok (.ifCond .gt 27, 3) := by decide +kernel
theorem dL_claimsHold_112 : decode cL_claimsHold 112 = .ok (.aload_n 0, 1) := by decide +kernel
theorem dL_claimsHold_113 : decode cL_claimsHold 113 = .ok (.aload_n 0, 1) := by decide +kernel
theorem dL_claimsHold_114 : decode cL_claimsHold 114 = .ok (.iload 4, 2) := by decide +kernel
theorem dL_claimsHold_116 : decode cL_claimsHold 116 = .ok (.iconst 0, 1) := by decide +kernel
theorem dL_claimsHold_117 : decode cL_claimsHold 117 = .ok (.invokestatic 108, 3) := by decide +kernel
theorem dL_claimsHold_120 : decode cL_claimsHold 120 = .ok (.l2i, 1) := by decide +kernel
theorem dL_claimsHold_121 : decode cL_claimsHold 121 = .ok (.iconst 5, 1) := by decide +kernel
theorem dL_claimsHold_122 : decode cL_claimsHold 122 = .ok (.invokestatic 81, 3) := by decide +kernel
theorem dL_claimsHold_125 : decode cL_claimsHold 125 = .ok (.iload 4, 2) := by decide +kernel
theorem dL_claimsHold_127 : decode cL_claimsHold 127 = .ok (.i2l, 1) := by decide +kernel
theorem dL_claimsHold_128 : decode cL_claimsHold 128 = .ok (.lcmp, 1) := by decide +kernel
theorem dL_claimsHold_129 : decode cL_claimsHold 129 = .ok (.ifCond .ne 7, 3) := by decide +kernel
theorem dL_claimsHold_132 : decode cL_claimsHold 132 = .ok (.iconst 1, 1) := by decide +kernel
theorem dL_claimsHold_133 : decode cL_claimsHold 133 = .ok (.goto 4, 3) := by decide +kernel
theorem dL_claimsHold_136 : decode cL_claimsHold 136 = .ok (.iconst 0, 1) := by decide +kernel
theorem dL_claimsHold_137 : decode cL_claimsHold 137 = .ok (.istore_n 3, 1) := by decide +kernel
theorem dL_claimsHold_138 : decode cL_claimsHold 138 = .ok (.iinc 4 1, 3) := by decide +kernel
theorem dL_claimsHold_141 : decode cL_claimsHold 141 = .ok (.goto (-107), 3) := by decide +kernel
theorem dL_claimsHold_144 : decode cL_claimsHold 144 = .ok (.iconst 0, 1) := by decide +kernel
theorem dL_claimsHold_145 : decode cL_claimsHold 145 = .ok (.istore 4, 2) := by decide +kernel
theorem dL_claimsHold_147 : decode cL_claimsHold 147 = .ok (.iload 4, 2) := by decide +kernel
theorem dL_claimsHold_149 : decode cL_claimsHold 149 = .ok (.iload_n 2, 1) := by decide +kernel
theorem dL_claimsHold_150 : decode cL_claimsHold 150 = .ok (.if_icmp .ge 46, 3) := by decide +kernel
theorem dL_claimsHold_153 : decode cL_claimsHold 153 = .ok (.iload_n 3, 1) := by decide +kernel
theorem dL_claimsHold_154 : decode cL_claimsHold 154 = .ok (.ifCond .eq 42, 3) := by decide +kernel
theorem dL_claimsHold_157 : decode cL_claimsHold 157 = .ok (.aload_n 0, 1) := by decide +kernel
theorem dL_claimsHold_158 : decode cL_claimsHold 158 = .ok (.iload 4, 2) := by decide +kernel
theorem dL_claimsHold_160 : decode cL_claimsHold 160 = .ok (.invokestatic 110, 3) := by decide +kernel
theorem dL_claimsHold_163 : decode cL_claimsHold 163 = .ok (.aload_n 0, 1) := by decide +kernel
theorem dL_claimsHold_164 : decode cL_claimsHold 164 = .ok (.iload 4, 2) := by decide +kernel
theorem dL_claimsHold_166 : decode cL_claimsHold 166 = .ok (.invokestatic 116, 3) := by decide +kernel
theorem dL_claimsHold_169 : decode cL_claimsHold 169 = .ok (.lcmp, 1) := by decide +kernel
theorem dL_claimsHold_170 : decode cL_claimsHold 170 = .ok (.ifCond .ne 18, 3) := by decide +kernel
theorem dL_claimsHold_173 : decode cL_claimsHold 173 = .ok (.aload_n 0, 1) := by decide +kernel
theorem dL_claimsHold_174 : decode cL_claimsHold 174 = .ok (.iload 4, 2) := by decide +kernel
theorem dL_claimsHold_176 : decode cL_claimsHold 176 = .ok (.invokestatic 110, 3) := by decide +kernel
theorem dL_claimsHold_179 : decode cL_claimsHold 179 = .ok (.lconst 0, 1) := by decide +kernel
theorem dL_claimsHold_180 : decode cL_claimsHold 180 = .ok (.lcmp, 1) := by decide +kernel
theorem dL_claimsHold_181 : decode cL_claimsHold 181 = .ok (.ifCond .lt 7, 3) := by decide +kernel
theorem dL_claimsHold_184 : decode cL_claimsHold 184 = .ok (.iconst 1, 1) := by decide +kernel
theorem dL_claimsHold_185 : decode cL_claimsHold 185 = .ok (.goto 4, 3) := by decide +kernel
theorem dL_claimsHold_188 : decode cL_claimsHold 188 = .ok (.iconst 0, 1) := by decide +kernel
theorem dL_claimsHold_189 : decode cL_claimsHold 189 = .ok (.istore_n 3, 1) := by decide +kernel
theorem dL_claimsHold_190 : decode cL_claimsHold 190 = .ok (.iinc 4 1, 3) := by decide +kernel
theorem dL_claimsHold_193 : decode cL_claimsHold 193 = .ok (.goto (-46), 3) := by decide +kernel
theorem dL_claimsHold_196 : decode cL_claimsHold 196 = .ok (.iload_n 3, 1) := by decide +kernel
theorem dL_claimsHold_197 : decode cL_claimsHold 197 = .ok (.ireturn, 1) := by decide +kernel
set_option maxRecDepth 20000 in
theorem ggL_refuses_X5_month : GoodIn wsL_refuses wsX5_month := goodIn_r _ [7, 8, 478, 479, 480, 481, 482, 483, 484, 485, 486, 487] (by decide +kernel) (by decide +kernel)
set_option maxRecDepth 20000 in
theorem gL_refuses_X5_month : GoodIn wsL_refuses (wsV RL 112 RX5 yX5_month wsX5_month) := goodIn_app (goodIn_of _ (by decide +kernel)) ggL_refuses_X5_month
set_option maxRecDepth 20000 in
theorem ggL_refuses_L_balance : GoodIn wsL_refuses wsL_balance := goodIn_ca (goodIn_r _ [12, 13, 2, 14, 15, 16, 6, 17, 18, 19, 20, 21, 22, 23, 24, 25, 26, 27, 28, 29, 30, 31, 32, 33, 34, 35, 36, 37, 38, 39, 40, 41, 42, 43, 44, 45, 46, 47, 48, 49, 50, 51, 52, 53, 54, 55, 478, 479, 480, 481, 482, 483, 484, 485, 486, 487, 488, 489, 490, 491, 492, 493, 494, 495, 496, 497, 498] (by decide +kernel) (by decide +kernel)) (goodIn_sub (fun _ h => List.mem_cons_of_mem _ (List.mem_append_left _ (List.mem_append_left _ (List.mem_append_right _ h)))) (by decide +kernel))
set_option maxRecDepth 20000 in
theorem gL_refuses_L_balance : GoodIn wsL_refuses (va_wsS RL 97 yL_balance wsL_balance) := goodIn_app (goodIn_of _ (by decide +kernel)) ggL_refuses_L_balance
set_option maxRecDepth 20000 in
theorem ggL_refuses_L_ground : GoodIn wsL_refuses wsL_ground := goodIn_ca (goodIn_ca (goodIn_r _ [58, 59, 13, 1, 2, 60, 61, 62, 6, 63, 28, 64, 18, 65, 66, 67, 68, 69, 70, 71, 72, 73, 19, 20, 21, 22, 23, 74, 37, 38, 39, 40, 41, 42, 43, 44, 45, 46, 47, 48, 478, 479, 480, 481, 482, 483, 484, 485, 486, 487, 488, 489, 490, 491, 492, 493, 494, 495, 496, 497, 498] (by decide +kernel) (by decide +kernel)) (goodIn_sub (fun _ h => List.mem_cons_of_mem _ (List.mem_append_left _ (List.mem_append_right _ h))) (by decide +kernel))) (goodIn_sub (fun _ h => List.mem_cons_of_mem _ (List.mem_append_left _ (List.mem_append_left _ (List.mem_append_right _ h)))) (by decide +kernel))
set_option maxRecDepth 20000 in
theorem gL_refuses_L_ground : GoodIn wsL_refuses (va_wsS RL 118 yL_ground wsL_ground) := goodIn_app (goodIn_of _ (by decide +kernel)) ggL_refuses_L_ground
set_option maxRecDepth 20000 in
theorem ggL_refuses_L_moss : GoodIn wsL_refuses wsL_moss := goodIn_ca (goodIn_ca (goodIn_r _ [77, 59, 13, 1, 2, 78, 79, 80, 6, 81, 28, 82, 69, 70, 71, 72, 73, 19, 20, 21, 22, 23, 478, 479, 480, 481, 482, 483, 484, 485, 486, 487, 488, 489, 490, 491, 492, 493, 494] (by decide +kernel) (by decide +kernel)) (goodIn_sub (fun _ h => List.mem_cons_of_mem _ (List.mem_append_left _ (List.mem_append_right _ h))) (by decide +kernel))) (goodIn_sub (fun _ h => List.mem_cons_of_mem _ (List.mem_append_left _ (List.mem_append_left _ (List.mem_append_right _ h)))) (by decide +kernel))
set_option maxRecDepth 20000 in
theorem gL_refuses_L_moss : GoodIn wsL_refuses (va_wsS RL 121 yL_moss wsL_moss) := goodIn_app (goodIn_of _ (by decide +kernel)) ggL_refuses_L_moss
set_option maxRecDepth 20000 in
theorem ggL_refuses_L_pass : GoodIn wsL_refuses wsL_pass := goodIn_ca (goodIn_ca (goodIn_r _ [85, 13, 86, 2, 87, 88, 89, 90, 6, 91, 8, 19, 20, 21, 22, 23, 92, 93, 94, 95, 96, 97, 98, 99, 100, 101, 102, 103, 104, 28, 105, 106, 107, 108, 109, 110, 111, 112, 113, 18, 114, 115, 116, 32, 117, 35, 118, 119, 120, 121, 122, 123, 124, 125, 39, 126, 41, 43, 44, 45, 46, 47, 48, 127, 128, 129, 130, 34, 131, 132, 133, 134, 135, 136, 137, 138, 139, 140, 141, 142, 143, 64, 67, 144, 145, 146, 147, 148, 149, 150, 151, 152, 153, 154, 155, 156, 157, 158, 159, 160, 161, 162, 163, 164, 165, 166, 167, 168, 169, 170, 171, 172, 173, 174, 175, 176, 177, 178, 179, 180, 181, 182, 183, 184, 185, 186, 187, 188, 189, 190, 191, 192, 193, 194, 195, 196, 197, 198, 199, 200, 201, 202, 203, 204, 205, 206, 207, 208, 209, 210, 211, 212, 213, 214, 215, 216, 217, 218, 219, 220, 55, 82, 68, 221, 222, 223, 224, 225, 226, 227, 228, 229, 42, 230, 231, 232, 233, 234, 235, 236, 237, 238, 239, 240, 241, 242, 243, 244, 245, 246, 247, 248, 249, 250, 251, 252, 253, 254, 255, 256, 478, 479, 480, 481, 482, 483, 484, 485, 486, 487, 488, 489, 490, 491, 492, 493, 494, 495, 496, 497, 498, 499, 500, 501, 502, 503, 504, 505, 506, 507, 508, 509, 510, 511] (by decide +kernel) (by decide +kernel)) (goodIn_sub (fun _ h => List.mem_cons_of_mem _ (List.mem_append_left _ (List.mem_append_left _ (List.mem_append_right _ h)))) (by decide +kernel))) (goodIn_sub (fun _ h => List.mem_cons_of_mem _ (List.mem_append_right _ h)) (by decide +kernel))
set_option maxRecDepth 20000 in
theorem gL_refuses_L_pass : GoodIn wsL_refuses (va_wsS RL 123 yL_pass wsL_pass) := goodIn_app (goodIn_of _ (by decide +kernel)) ggL_refuses_L_pass
set_option maxRecDepth 20000 in
theorem ggL_refuses_L_fire : GoodIn wsL_refuses wsL_fire := goodIn_ca (goodIn_ca (goodIn_r _ [259, 59, 86, 1, 87, 260, 261, 262, 6, 263, 28, 105, 64, 68, 82, 55, 69, 70, 71, 72, 73, 221, 128, 129, 32, 130, 34, 92, 93, 94, 95, 96, 478, 479, 480, 481, 482, 483, 484, 485, 486, 487, 488, 489, 490, 491, 492, 493, 494, 495, 496, 497, 498] (by decide +kernel) (by decide +kernel)) (goodIn_sub (fun _ h => List.mem_cons_of_mem _ (List.mem_append_left _ (List.mem_append_right _ h))) (by decide +kernel))) (goodIn_sub (fun _ h => List.mem_cons_of_mem _ (List.mem_append_right _ h)) (by decide +kernel))
set_option maxRecDepth 20000 in
theorem gL_refuses_L_fire : GoodIn wsL_refuses (va_wsS RL 125 yL_fire wsL_fire) := goodIn_app (goodIn_of _ (by decide +kernel)) ggL_refuses_L_fire
set_option maxRecDepth 20000 in
theorem ggL_refuses_L_breach : GoodIn wsL_refuses wsL_breach := goodIn_ca (goodIn_ca (goodIn_r _ [266, 59, 86, 1, 87, 267, 268, 269, 6, 270, 28, 190, 271, 54, 69, 70, 71, 72, 73, 92, 93, 94, 95, 96, 272, 273, 274, 275, 276, 277, 278, 279, 280, 281, 282, 283, 284, 195, 285, 286, 287, 288, 196, 197, 198, 478, 479, 480, 481, 482, 483, 484, 485, 486, 487, 488, 489, 490, 491, 492, 493, 494] (by decide +kernel) (by decide +kernel)) (goodIn_sub (fun _ h => List.mem_cons_of_mem _ (List.mem_append_left _ (List.mem_append_right _ h))) (by decide +kernel))) (goodIn_sub (fun _ h => List.mem_cons_of_mem _ (List.mem_append_right _ h)) (by decide +kernel))
set_option maxRecDepth 20000 in
theorem gL_refuses_L_breach : GoodIn wsL_refuses (va_wsS RL 127 yL_breach wsL_breach) := goodIn_app (goodIn_of _ (by decide +kernel)) ggL_refuses_L_breach
set_option maxRecDepth 20000 in
theorem ggL_refuses_L_house : GoodIn wsL_refuses wsL_house := goodIn_ca (goodIn_ca (goodIn_r _ [291, 59, 86, 1, 87, 292, 293, 294, 6, 295, 28, 296, 140, 297, 298, 299, 8, 69, 70, 71, 72, 73, 221, 128, 129, 32, 130, 34, 144, 145, 146, 147, 148, 149, 92, 93, 94, 95, 96, 300, 301, 302, 303, 304, 305, 306, 307, 308, 309, 310, 311, 312, 313, 314, 315, 166, 316, 317, 318, 319, 320, 321, 322, 323, 324, 325, 326, 327, 328, 329, 119, 108, 120, 330, 331, 332, 333, 334, 335, 336, 337, 338, 339, 340, 341, 342, 343, 344, 345, 346, 347, 348, 349, 350, 351, 352, 353, 107, 109, 354, 355, 356, 357, 478, 479, 480, 481, 482, 483, 484, 485, 486, 487, 488, 489, 490, 491, 492, 493, 494, 499, 500, 501, 502, 503, 504, 505, 506] (by decide +kernel) (by decide +kernel)) (goodIn_sub (fun _ h => List.mem_cons_of_mem _ (List.mem_append_left _ (List.mem_append_right _ h))) (by decide +kernel))) (goodIn_sub (fun _ h => List.mem_cons_of_mem _ (List.mem_append_right _ h)) (by decide +kernel))
set_option maxRecDepth 20000 in
theorem gL_refuses_L_house : GoodIn wsL_refuses (va_wsS RL 129 yL_house wsL_house) := goodIn_app (goodIn_of _ (by decide +kernel)) ggL_refuses_L_house
set_option maxRecDepth 20000 in
theorem ggL_refuses_L_borehole : GoodIn wsL_refuses wsL_borehole := goodIn_ca (goodIn_ca (goodIn_ca (goodIn_r _ [360, 59, 13, 86, 1, 2, 87, 361, 362, 363, 6, 364, 245, 365, 366, 251, 8, 69, 70, 71, 72, 73, 19, 20, 21, 22, 23, 144, 145, 146, 147, 148, 149, 92, 93, 94, 95, 96, 367, 368, 369, 370, 304, 305, 371, 254, 372, 373, 119, 108, 120, 374, 255, 310, 311, 312, 313, 314, 315, 166, 316, 317, 318, 319, 320, 321, 322, 323, 324, 325, 326, 327, 328, 329, 330, 331, 332, 333, 334, 335, 336, 337, 338, 339, 340, 341, 342, 343, 344, 345, 346, 347, 348, 349, 350, 351, 352, 353, 107, 109, 354, 355, 356, 357, 478, 479, 480, 481, 482, 483, 484, 485, 486, 487, 507, 508, 509, 510, 511, 504, 505, 506] (by decide +kernel) (by decide +kernel)) (goodIn_sub (fun _ h => List.mem_cons_of_mem _ (List.mem_append_left _ (List.mem_append_right _ h))) (by decide +kernel))) (goodIn_sub (fun _ h => List.mem_cons_of_mem _ (List.mem_append_left _ (List.mem_append_left _ (List.mem_append_right _ h)))) (by decide +kernel))) (goodIn_sub (fun _ h => List.mem_cons_of_mem _ (List.mem_append_right _ h)) (by decide +kernel))
set_option maxRecDepth 20000 in
theorem gL_refuses_L_borehole : GoodIn wsL_refuses (va_wsS RL 132 yL_borehole wsL_borehole) := goodIn_app (goodIn_of _ (by decide +kernel)) ggL_refuses_L_borehole
set_option maxRecDepth 20000 in
theorem ggL_refuses_L_claim : GoodIn wsL_refuses wsL_claim := goodIn_ca (goodIn_ca (goodIn_r _ [377, 59, 86, 1, 87, 378, 379, 380, 6, 381, 140, 382, 141, 383, 384, 385, 8, 236, 144, 145, 146, 147, 148, 149, 69, 70, 71, 72, 73, 92, 93, 94, 95, 96, 150, 151, 152, 153, 154, 155, 156, 157, 158, 159, 160, 161, 162, 163, 164, 165, 166, 386, 387, 388, 389, 106, 107, 108, 109, 390, 391, 392, 393, 394, 395, 396, 397, 398, 245, 246, 247, 143, 235, 399, 400, 401, 251, 402, 372, 253, 403, 404, 405, 406, 255, 407, 408, 409, 410, 304, 305, 411, 412, 413, 414, 415, 310, 311, 312, 313, 314, 315, 316, 317, 318, 319, 320, 321, 322, 323, 324, 325, 326, 327, 328, 329, 119, 120, 330, 331, 332, 333, 334, 335, 336, 337, 338, 339, 340, 341, 342, 343, 344, 345, 346, 347, 348, 349, 350, 351, 352, 353, 354, 355, 356, 357, 478, 479, 480, 481, 482, 483, 484, 485, 486, 487, 512, 513, 514, 515, 499, 500, 501, 502, 503, 504, 505, 506, 507, 508, 509, 510, 511] (by decide +kernel) (by decide +kernel)) (goodIn_sub (fun _ h => List.mem_cons_of_mem _ (List.mem_append_left _ (List.mem_append_right _ h))) (by decide +kernel))) (goodIn_sub (fun _ h => List.mem_cons_of_mem _ (List.mem_append_right _ h)) (by decide +kernel))
set_option maxRecDepth 20000 in
theorem gL_refuses_L_claim : GoodIn wsL_refuses (va_wsS RL 134 yL_claim wsL_claim) := goodIn_app (goodIn_of _ (by decide +kernel)) ggL_refuses_L_claim
set_option maxRecDepth 20000 in
theorem ggL_refuses_L_cellOf : GoodIn wsL_refuses wsL_cellOf := goodIn_ca (goodIn_ca (goodIn_r _ [418, 59, 13, 1, 2, 419, 420, 421, 6, 422, 28, 423, 190, 105, 82, 424, 296, 69, 70, 71, 72, 73, 19, 20, 21, 22, 23, 272, 273, 274, 275, 276, 277, 278, 279, 280, 281, 282, 283, 284, 271, 195, 285, 286, 287, 288, 196, 197, 198, 425, 426, 427, 32, 428, 35, 429, 238, 239, 39, 240, 41, 478, 479, 480, 481, 482, 483, 484, 485, 486, 487, 488, 489, 490, 491, 492, 493, 494, 495, 496, 497, 498] (by decide +kernel) (by decide +kernel)) (goodIn_sub (fun _ h => List.mem_cons_of_mem _ (List.mem_append_left _ (List.mem_append_right _ h))) (by decide +kernel))) (goodIn_sub (fun _ h => List.mem_cons_of_mem _ (List.mem_append_left _ (List.mem_append_left _ (List.mem_append_right _ h)))) (by decide +kernel))
set_option maxRecDepth 20000 in
theorem gL_refuses_L_cellOf : GoodIn wsL_refuses (va_wsS RL 81 yL_cellOf wsL_cellOf) := goodIn_app (goodIn_of _ (by decide +kernel)) ggL_refuses_L_cellOf
set_option maxRecDepth 20000 in
theorem ggL_refuses_L_layerOf : GoodIn wsL_refuses wsL_layerOf := goodIn_ca (goodIn_ca (goodIn_r _ [432, 59, 13, 1, 2, 433, 434, 435, 6, 436, 28, 64, 67, 65, 66, 68, 69, 70, 71, 72, 73, 19, 20, 21, 22, 23, 437, 124, 125, 39, 126, 41, 43, 44, 45, 46, 47, 48, 438, 182, 183, 184, 180, 119, 108, 120, 185, 107, 109, 478, 479, 480, 481, 482, 483, 484, 485, 486, 487, 488, 489, 490, 491, 492, 493, 494, 495, 496, 497, 498] (by decide +kernel) (by decide +kernel)) (goodIn_sub (fun _ h => List.mem_cons_of_mem _ (List.mem_append_left _ (List.mem_append_right _ h))) (by decide +kernel))) (goodIn_sub (fun _ h => List.mem_cons_of_mem _ (List.mem_append_left _ (List.mem_append_left _ (List.mem_append_right _ h)))) (by decide +kernel))
set_option maxRecDepth 20000 in
theorem gL_refuses_L_layerOf : GoodIn wsL_refuses (va_wsS RL 88 yL_layerOf wsL_layerOf) := goodIn_app (goodIn_of _ (by decide +kernel)) ggL_refuses_L_layerOf
set_option maxRecDepth 20000 in
theorem ggL_refuses_L_neighbour : GoodIn wsL_refuses wsL_neighbour := goodIn_ca (goodIn_r _ [441, 59, 1, 442, 443, 444, 6, 445, 72, 73, 195, 69, 70, 71, 196, 197, 198] (by decide +kernel) (by decide +kernel)) (goodIn_sub (fun _ h => List.mem_cons_of_mem _ (List.mem_append_left _ (List.mem_append_right _ h))) (by decide +kernel))
set_option maxRecDepth 20000 in
theorem gL_refuses_L_neighbour : GoodIn wsL_refuses (va_wsS RL 106 yL_neighbour wsL_neighbour) := goodIn_app (goodIn_of _ (by decide +kernel)) ggL_refuses_L_neighbour
set_option maxRecDepth 20000 in
theorem ggL_refuses_L_houseOf : GoodIn wsL_refuses wsL_houseOf := goodIn_ca (goodIn_ca (goodIn_r _ [448, 59, 13, 1, 2, 449, 450, 451, 6, 452, 140, 141, 143, 235, 236, 394, 8, 144, 145, 146, 147, 148, 149, 69, 70, 71, 72, 73, 19, 20, 21, 22, 23, 150, 151, 152, 153, 154, 155, 156, 157, 158, 159, 160, 161, 162, 163, 164, 165, 166, 386, 387, 388, 389, 106, 107, 108, 109, 390, 391, 392, 393, 395, 396, 397, 398, 245, 246, 247, 399, 400, 401, 251, 402, 372, 253, 403, 404, 405, 406, 255, 478, 479, 480, 481, 482, 483, 484, 485, 486, 487, 499, 500, 501, 502, 503, 504, 505, 506, 507, 508, 509, 510, 511] (by decide +kernel) (by decide +kernel)) (goodIn_sub (fun _ h => List.mem_cons_of_mem _ (List.mem_append_left _ (List.mem_append_right _ h))) (by decide +kernel))) (goodIn_sub (fun _ h => List.mem_cons_of_mem _ (List.mem_append_left _ (List.mem_append_left _ (List.mem_append_right _ h)))) (by decide +kernel))
set_option maxRecDepth 20000 in
theorem gL_refuses_L_houseOf : GoodIn wsL_refuses (va_wsS RL 108 yL_houseOf wsL_houseOf) := goodIn_app (goodIn_of _ (by decide +kernel)) ggL_refuses_L_houseOf
set_option maxRecDepth 20000 in
theorem ggL_refuses_L_reading : GoodIn wsL_refuses wsL_reading := goodIn_ca (goodIn_r _ [455, 59, 1, 456, 457, 458, 6, 459, 72, 73, 245, 246, 144, 145, 146, 147, 148, 149, 69, 70, 71, 150, 151, 152, 153, 154, 155, 156, 157, 158, 159, 160, 161, 162, 163, 164, 165, 166, 399, 400, 401, 251, 402, 372, 253, 403, 404, 405, 406, 255, 478, 479, 480, 481, 482, 483, 484, 485, 486, 487, 504, 505, 506, 507, 508, 509, 510, 511] (by decide +kernel) (by decide +kernel)) (goodIn_sub (fun _ h => List.mem_cons_of_mem _ (List.mem_append_left _ (List.mem_append_right _ h))) (by decide +kernel))
set_option maxRecDepth 20000 in
theorem gL_refuses_L_reading : GoodIn wsL_refuses (va_wsS RL 136 yL_reading wsL_reading) := goodIn_app (goodIn_of _ (by decide +kernel)) ggL_refuses_L_reading
set_option maxRecDepth 20000 in
theorem ggL_refuses_L_claimAnew : GoodIn wsL_refuses wsL_claimAnew := goodIn_ca (goodIn_r _ [462, 59, 1, 463, 464, 465, 6, 466, 382, 467, 468, 469, 470, 144, 145, 146, 147, 148, 149, 69, 70, 71, 72, 73, 150, 151, 152, 153, 154, 155, 156, 157, 158, 159, 160, 161, 162, 163, 164, 165, 166, 386, 387, 388, 389, 106, 107, 108, 109, 390, 391, 392, 393, 394, 395, 396, 397, 398, 245, 246, 247, 143, 235, 399, 400, 401, 251, 402, 372, 253, 403, 404, 405, 406, 255, 478, 479, 480, 481, 482, 483, 484, 485, 486, 487, 512, 513, 514, 515, 504, 505, 506, 499, 500, 501, 502, 503, 507, 508, 509, 510, 511] (by decide +kernel) (by decide +kernel)) (goodIn_sub (fun _ h => List.mem_cons_of_mem _ (List.mem_append_left _ (List.mem_append_right _ h))) (by decide +kernel))
set_option maxRecDepth 20000 in
theorem gL_refuses_L_claimAnew : GoodIn wsL_refuses (va_wsS RL 116 yL_claimAnew wsL_claimAnew) := goodIn_app (goodIn_of _ (by decide +kernel)) ggL_refuses_L_claimAnew
set_option maxRecDepth 20000 in
theorem ggL_refuses_L_air : GoodIn wsL_refuses wsL_air := goodIn_ca (goodIn_r _ [473, 13, 2, 474, 475, 476, 6, 477, 55, 19, 20, 21, 22, 23, 478, 479, 480, 481, 482, 483, 484, 485, 486, 487] (by decide +kernel) (by decide +kernel)) (goodIn_sub (fun _ h => List.mem_cons_of_mem _ (List.mem_append_left _ (List.mem_append_left _ (List.mem_append_right _ h)))) (by decide +kernel))
set_option maxRecDepth 20000 in
theorem gL_refuses_L_air : GoodIn wsL_refuses (va_wsS RL 99 yL_air wsL_air) := goodIn_app (goodIn_of _ (by decide +kernel)) ggL_refuses_L_air
theorem dL_refuses_0 : decode cL_refuses 0 = .ok (.aload_n 0, 1) := by decide +kernel
theorem dL_refuses_1 : decode cL_refuses 1 = .ok (.invokevirtual 112, 3) := by decide +kernel
theorem dL_refuses_4 : decode cL_refuses 4 = .ok (.istore_n 1, 1) := by decide +kernel
theorem dL_refuses_5 : decode cL_refuses 5 = .ok (.aload_n 0, 1) := by decide +kernel
theorem dL_refuses_6 : decode cL_refuses 6 = .ok (.iconst 0, 1) := by decide +kernel
theorem dL_refuses_7 : decode cL_refuses 7 = .ok (.iconst 0, 1) := by decide +kernel
theorem dL_refuses_8 : decode cL_refuses 8 = .ok (.invokestatic 97, 3) := by decide +kernel
theorem dL_refuses_11 : decode cL_refuses 11 = .ok (.lstore_n 2, 1) := by decide +kernel
theorem dL_refuses_12 : decode cL_refuses 12 = .ok (.aload_n 0, 1) := by decide +kernel
theorem dL_refuses_13 : decode cL_refuses 13 = .ok (.bipush 25, 2) := by decide +kernel
theorem dL_refuses_15 : decode cL_refuses 15 = .ok (.iconst 0, 1) := by decide +kernel
theorem dL_refuses_16 : decode cL_refuses 16 = .ok (.iconst 0, 1) := by decide +kernel
theorem dL_refuses_17 : decode cL_refuses 17 = .ok (.iconst 0, 1) := by decide +kernel
theorem dL_refuses_18 : decode cL_refuses 18 = .ok (.iconst 0, 1) := by decide +kernel
theorem dL_refuses_19 : decode cL_refuses 19 = .ok (.iconst 0, 1) := by decide +kernel
theorem dL_refuses_20 : decode cL_refuses 20 = .ok (.invokestatic 118, 3) := by decide +kernel
theorem dL_refuses_23 : decode cL_refuses 23 = .ok (.ldc2_w 17, 3) := by decide +kernel
theorem dL_refuses_26 : decode cL_refuses 26 = .ok (.lcmp, 1) := by decide +kernel
theorem dL_refuses_27 : decode cL_refuses 27 = .ok (.ifCond .ne 222, 3) := by decide +kernel
theorem dL_refuses_30 : decode cL_refuses 30 = .ok (.aload_n 0, 1) := by decide +kernel
theorem dL_refuses_31 : decode cL_refuses 31 = .ok (.iconst 0, 1) := by decide +kernel
theorem dL_refuses_32 : decode cL_refuses 32 = .ok (.iconst 5, 1) := by decide +kernel
theorem dL_refuses_33 : decode cL_refuses 33 = .ok (.iconst 0, 1) := by decide +kernel
theorem dL_refuses_34 : decode cL_refuses 34 = .ok (.iconst 0, 1) := by decide +kernel
theorem dL_refuses_35 : decode cL_refuses 35 = .ok (.iconst 0, 1) := by decide +kernel
theorem dL_refuses_36 : decode cL_refuses 36 = .ok (.iconst 0, 1) := by decide +kernel
theorem dL_refuses_37 : decode cL_refuses 37 = .ok (.invokestatic 118, 3) := by decide +kernel
theorem dL_refuses_40 : decode cL_refuses 40 = .ok (.ldc2_w 17, 3) := by decide +kernel
theorem dL_refuses_43 : decode cL_refuses 43 = .ok (.lcmp, 1) := by decide +kernel
theorem dL_refuses_44 : decode cL_refuses 44 = .ok (.ifCond .ne 205, 3) := by decide +kernel
theorem dL_refuses_47 : decode cL_refuses 47 = .ok (.aload_n 0, 1) := by decide +kernel
theorem dL_refuses_48 : decode cL_refuses 48 = .ok (.iconst 0, 1) := by decide +kernel
theorem dL_refuses_49 : decode cL_refuses 49 = .ok (.iconst 0, 1) := by decide +kernel
theorem dL_refuses_50 : decode cL_refuses 50 = .ok (.bipush 10, 2) := by decide +kernel
theorem dL_refuses_52 : decode cL_refuses 52 = .ok (.iconst 0, 1) := by decide +kernel
theorem dL_refuses_53 : decode cL_refuses 53 = .ok (.iconst 0, 1) := by decide +kernel
theorem dL_refuses_54 : decode cL_refuses 54 = .ok (.iconst 0, 1) := by decide +kernel
theorem dL_refuses_55 : decode cL_refuses 55 = .ok (.invokestatic 118, 3) := by decide +kernel
theorem dL_refuses_58 : decode cL_refuses 58 = .ok (.ldc2_w 21, 3) := by decide +kernel
theorem dL_refuses_61 : decode cL_refuses 61 = .ok (.lcmp, 1) := by decide +kernel
theorem dL_refuses_62 : decode cL_refuses 62 = .ok (.ifCond .ne 187, 3) := by decide +kernel
theorem dL_refuses_65 : decode cL_refuses 65 = .ok (.aload_n 0, 1) := by decide +kernel
theorem dL_refuses_66 : decode cL_refuses 66 = .ok (.iconst 0, 1) := by decide +kernel
theorem dL_refuses_67 : decode cL_refuses 67 = .ok (.iconst 0, 1) := by decide +kernel
theorem dL_refuses_68 : decode cL_refuses 68 = .ok (.iconst 0, 1) := by decide +kernel
theorem dL_refuses_69 : decode cL_refuses 69 = .ok (.iconst (-1), 1) := by decide +kernel
theorem dL_refuses_70 : decode cL_refuses 70 = .ok (.iconst 0, 1) := by decide +kernel
theorem dL_refuses_71 : decode cL_refuses 71 = .ok (.iconst 0, 1) := by decide +kernel
theorem dL_refuses_72 : decode cL_refuses 72 = .ok (.invokestatic 118, 3) := by decide +kernel
theorem dL_refuses_75 : decode cL_refuses 75 = .ok (.ldc2_w 21, 3) := by decide +kernel
theorem dL_refuses_78 : decode cL_refuses 78 = .ok (.lcmp, 1) := by decide +kernel
theorem dL_refuses_79 : decode cL_refuses 79 = .ok (.ifCond .ne 170, 3) := by decide +kernel
theorem dL_refuses_82 : decode cL_refuses 82 = .ok (.aload_n 0, 1) := by decide +kernel
theorem dL_refuses_83 : decode cL_refuses 83 = .ok (.iconst 0, 1) := by decide +kernel
theorem dL_refuses_84 : decode cL_refuses 84 = .ok (.iconst 0, 1) := by decide +kernel
theorem dL_refuses_85 : decode cL_refuses 85 = .ok (.iconst 0, 1) := by decide +kernel
theorem dL_refuses_86 : decode cL_refuses 86 = .ok (.iconst 0, 1) := by decide +kernel
theorem dL_refuses_87 : decode cL_refuses 87 = .ok (.sipush 30001, 3) := by decide +kernel
theorem dL_refuses_90 : decode cL_refuses 90 = .ok (.iconst 0, 1) := by decide +kernel
theorem dL_refuses_91 : decode cL_refuses 91 = .ok (.invokestatic 118, 3) := by decide +kernel
theorem dL_refuses_94 : decode cL_refuses 94 = .ok (.ldc2_w 21, 3) := by decide +kernel
theorem dL_refuses_97 : decode cL_refuses 97 = .ok (.lcmp, 1) := by decide +kernel
theorem dL_refuses_98 : decode cL_refuses 98 = .ok (.ifCond .ne 151, 3) := by decide +kernel
theorem dL_refuses_101 : decode cL_refuses 101 = .ok (.aload_n 0, 1) := by decide +kernel
theorem dL_refuses_102 : decode cL_refuses 102 = .ok (.iconst 0, 1) := by decide +kernel
theorem dL_refuses_103 : decode cL_refuses 103 = .ok (.iconst 0, 1) := by decide +kernel
theorem dL_refuses_104 : decode cL_refuses 104 = .ok (.iconst 0, 1) := by decide +kernel
theorem dL_refuses_105 : decode cL_refuses 105 = .ok (.iconst 0, 1) := by decide +kernel
theorem dL_refuses_106 : decode cL_refuses 106 = .ok (.iconst 0, 1) := by decide +kernel
theorem dL_refuses_107 : decode cL_refuses 107 = .ok (.sipush 1001, 3) := by decide +kernel
theorem dL_refuses_110 : decode cL_refuses 110 = .ok (.invokestatic 118, 3) := by decide +kernel
theorem dL_refuses_113 : decode cL_refuses 113 = .ok (.ldc2_w 21, 3) := by decide +kernel
theorem dL_refuses_116 : decode cL_refuses 116 = .ok (.lcmp, 1) := by decide +kernel
theorem dL_refuses_117 : decode cL_refuses 117 = .ok (.ifCond .ne 132, 3) := by decide +kernel
theorem dL_refuses_120 : decode cL_refuses 120 = .ok (.aload_n 0, 1) := by decide +kernel
theorem dL_refuses_121 : decode cL_refuses 121 = .ok (.iconst (-1), 1) := by decide +kernel
theorem dL_refuses_122 : decode cL_refuses 122 = .ok (.iconst 0, 1) := by decide +kernel
theorem dL_refuses_123 : decode cL_refuses 123 = .ok (.invokestatic 121, 3) := by decide +kernel
theorem dL_refuses_126 : decode cL_refuses 126 = .ok (.ldc2_w 17, 3) := by decide +kernel
theorem dL_refuses_129 : decode cL_refuses 129 = .ok (.lcmp, 1) := by decide +kernel
theorem dL_refuses_130 : decode cL_refuses 130 = .ok (.ifCond .ne 119, 3) := by decide +kernel
theorem dL_refuses_133 : decode cL_refuses 133 = .ok (.aload_n 0, 1) := by decide +kernel
theorem dL_refuses_134 : decode cL_refuses 134 = .ok (.iconst 0, 1) := by decide +kernel
theorem dL_refuses_135 : decode cL_refuses 135 = .ok (.iconst 4, 1) := by decide +kernel
theorem dL_refuses_136 : decode cL_refuses 136 = .ok (.invokestatic 121, 3) := by decide +kernel
theorem dL_refuses_139 : decode cL_refuses 139 = .ok (.ldc2_w 21, 3) := by decide +kernel
theorem dL_refuses_142 : decode cL_refuses 142 = .ok (.lcmp, 1) := by decide +kernel
theorem dL_refuses_143 : decode cL_refuses 143 = .ok (.ifCond .ne 106, 3) := by decide +kernel
theorem dL_refuses_146 : decode cL_refuses 146 = .ok (.aload_n 0, 1) := by decide +kernel
theorem dL_refuses_147 : decode cL_refuses 147 = .ok (.bipush 25, 2) := by decide +kernel
theorem dL_refuses_149 : decode cL_refuses 149 = .ok (.iconst 0, 1) := by decide +kernel
theorem dL_refuses_150 : decode cL_refuses 150 = .ok (.iconst 0, 1) := by decide +kernel
theorem dL_refuses_151 : decode cL_refuses 151 = .ok (.invokestatic 123, 3) := by decide +kernel
theorem dL_refuses_154 : decode cL_refuses 154 = .ok (.ldc2_w 21, 3) := by decide +kernel
theorem dL_refuses_157 : decode cL_refuses 157 = .ok (.lcmp, 1) := by decide +kernel
theorem dL_refuses_158 : decode cL_refuses 158 = .ok (.ifCond .ne 91, 3) := by decide +kernel
theorem dL_refuses_161 : decode cL_refuses 161 = .ok (.aload_n 0, 1) := by decide +kernel
theorem dL_refuses_162 : decode cL_refuses 162 = .ok (.iconst 1, 1) := by decide +kernel
theorem dL_refuses_163 : decode cL_refuses 163 = .ok (.bipush 31, 2) := by decide +kernel
theorem dL_refuses_165 : decode cL_refuses 165 = .ok (.iconst 0, 1) := by decide +kernel
theorem dL_refuses_166 : decode cL_refuses 166 = .ok (.invokestatic 123, 3) := by decide +kernel
theorem dL_refuses_169 : decode cL_refuses 169 = .ok (.ldc2_w 21, 3) := by decide +kernel
theorem dL_refuses_172 : decode cL_refuses 172 = .ok (.lcmp, 1) := by decide +kernel
theorem dL_refuses_173 : decode cL_refuses 173 = .ok (.ifCond .ne 76, 3) := by decide +kernel
theorem dL_refuses_176 : decode cL_refuses 176 = .ok (.aload_n 0, 1) := by decide +kernel
theorem dL_refuses_177 : decode cL_refuses 177 = .ok (.iconst 1, 1) := by decide +kernel
theorem dL_refuses_178 : decode cL_refuses 178 = .ok (.iconst 0, 1) := by decide +kernel
theorem dL_refuses_179 : decode cL_refuses 179 = .ok (.bipush 10, 2) := by decide +kernel
theorem dL_refuses_181 : decode cL_refuses 181 = .ok (.invokestatic 123, 3) := by decide +kernel
theorem dL_refuses_184 : decode cL_refuses 184 = .ok (.ldc2_w 21, 3) := by decide +kernel
theorem dL_refuses_187 : decode cL_refuses 187 = .ok (.lcmp, 1) := by decide +kernel
theorem dL_refuses_188 : decode cL_refuses 188 = .ok (.ifCond .ne 61, 3) := by decide +kernel
theorem dL_refuses_191 : decode cL_refuses 191 = .ok (.aload_n 0, 1) := by decide +kernel
theorem dL_refuses_192 : decode cL_refuses 192 = .ok (.bipush 25, 2) := by decide +kernel
theorem dL_refuses_194 : decode cL_refuses 194 = .ok (.invokestatic 125, 3) := by decide +kernel
theorem dL_refuses_197 : decode cL_refuses 197 = .ok (.ldc2_w 17, 3) := by decide +kernel
theorem dL_refuses_200 : decode cL_refuses 200 = .ok (.lcmp, 1) := by decide +kernel
theorem dL_refuses_201 : decode cL_refuses 201 = .ok (.ifCond .ne 48, 3) := by decide +kernel
theorem dL_refuses_204 : decode cL_refuses 204 = .ok (.aload_n 0, 1) := by decide +kernel
theorem dL_refuses_205 : decode cL_refuses 205 = .ok (.iconst (-1), 1) := by decide +kernel
theorem dL_refuses_206 : decode cL_refuses 206 = .ok (.invokestatic 127, 3) := by decide +kernel
theorem dL_refuses_209 : decode cL_refuses 209 = .ok (.ldc2_w 17, 3) := by decide +kernel
theorem dL_refuses_212 : decode cL_refuses 212 = .ok (.lcmp, 1) := by decide +kernel
theorem dL_refuses_213 : decode cL_refuses 213 = .ok (.ifCond .ne 36, 3) := by decide +kernel
theorem dL_refuses_216 : decode cL_refuses 216 = .ok (.aload_n 0, 1) := by decide +kernel
theorem dL_refuses_217 : decode cL_refuses 217 = .ok (.bipush 25, 2) := by decide +kernel
theorem dL_refuses_219 : decode cL_refuses 219 = .ok (.iconst 1, 1) := by decide +kernel
theorem dL_refuses_220 : decode cL_refuses 220 = .ok (.iconst 1, 1) := by decide +kernel
theorem dL_refuses_221 : decode cL_refuses 221 = .ok (.invokestatic 129, 3) := by decide +kernel
theorem dL_refuses_224 : decode cL_refuses 224 = .ok (.ldc2_w 17, 3) := by decide +kernel
theorem dL_refuses_227 : decode cL_refuses 227 = .ok (.lcmp, 1) := by decide +kernel
theorem dL_refuses_228 : decode cL_refuses 228 = .ok (.ifCond .ne 21, 3) := by decide +kernel
theorem dL_refuses_231 : decode cL_refuses 231 = .ok (.aload_n 0, 1) := by decide +kernel
theorem dL_refuses_232 : decode cL_refuses 232 = .ok (.iconst 0, 1) := by decide +kernel
theorem dL_refuses_233 : decode cL_refuses 233 = .ok (.iconst 0, 1) := by decide +kernel
theorem dL_refuses_234 : decode cL_refuses 234 = .ok (.iconst 1, 1) := by decide +kernel
theorem dL_refuses_235 : decode cL_refuses 235 = .ok (.invokestatic 129, 3) := by decide +kernel
theorem dL_refuses_238 : decode cL_refuses 238 = .ok (.ldc2_w 17, 3) := by decide +kernel
theorem dL_refuses_241 : decode cL_refuses 241 = .ok (.lcmp, 1) := by decide +kernel
theorem dL_refuses_242 : decode cL_refuses 242 = .ok (.ifCond .ne 7, 3) := by decide +kernel
theorem dL_refuses_245 : decode cL_refuses 245 = .ok (.iconst 1, 1) := by decide +kernel
theorem dL_refuses_246 : decode cL_refuses 246 = .ok (.goto 4, 3) := by decide +kernel
theorem dL_refuses_249 : decode cL_refuses 249 = .ok (.iconst 0, 1) := by decide +kernel
theorem dL_refuses_250 : decode cL_refuses 250 = .ok (.istore 4, 2) := by decide +kernel
theorem dL_refuses_252 : decode cL_refuses 252 = .ok (.iload 4, 2) := by decide +kernel
theorem dL_refuses_254 : decode cL_refuses 254 = .ok (.ifCond .eq 203, 3) := by decide +kernel
theorem dL_refuses_257 : decode cL_refuses 257 = .ok (.aload_n 0, 1) := by decide +kernel
theorem dL_refuses_258 : decode cL_refuses 258 = .ok (.bipush 25, 2) := by decide +kernel
theorem dL_refuses_260 : decode cL_refuses 260 = .ok (.iconst 0, 1) := by decide +kernel
theorem dL_refuses_261 : decode cL_refuses 261 = .ok (.invokestatic 132, 3) := by decide +kernel
theorem dL_refuses_264 : decode cL_refuses 264 = .ok (.ldc2_w 17, 3) := by decide +kernel
theorem dL_refuses_267 : decode cL_refuses 267 = .ok (.lcmp, 1) := by decide +kernel
theorem dL_refuses_268 : decode cL_refuses 268 = .ok (.ifCond .ne 189, 3) := by decide +kernel
theorem dL_refuses_271 : decode cL_refuses 271 = .ok (.aload_n 0, 1) := by decide +kernel
theorem dL_refuses_272 : decode cL_refuses 272 = .ok (.iconst 0, 1) := by decide +kernel
theorem dL_refuses_273 : decode cL_refuses 273 = .ok (.bipush 13, 2) := by decide +kernel
theorem dL_refuses_275 : decode cL_refuses 275 = .ok (.invokestatic 132, 3) := by decide +kernel
theorem dL_refuses_278 : decode cL_refuses 278 = .ok (.ldc2_w 21, 3) := by decide +kernel
theorem dL_refuses_281 : decode cL_refuses 281 = .ok (.lcmp, 1) := by decide +kernel
theorem dL_refuses_282 : decode cL_refuses 282 = .ok (.ifCond .ne 175, 3) := by decide +kernel
theorem dL_refuses_285 : decode cL_refuses 285 = .ok (.aload_n 0, 1) := by decide +kernel
theorem dL_refuses_286 : decode cL_refuses 286 = .ok (.bipush 10, 2) := by decide +kernel
theorem dL_refuses_288 : decode cL_refuses 288 = .ok (.invokestatic 134, 3) := by decide +kernel
theorem dL_refuses_291 : decode cL_refuses 291 = .ok (.ldc2_w 17, 3) := by decide +kernel
theorem dL_refuses_294 : decode cL_refuses 294 = .ok (.lcmp, 1) := by decide +kernel
theorem dL_refuses_295 : decode cL_refuses 295 = .ok (.ifCond .ne 162, 3) := by decide +kernel
theorem dL_refuses_298 : decode cL_refuses 298 = .ok (.aload_n 0, 1) := by decide +kernel
theorem dL_refuses_299 : decode cL_refuses 299 = .ok (.iconst 0, 1) := by decide +kernel
theorem dL_refuses_300 : decode cL_refuses 300 = .ok (.bipush 8, 2) := by decide +kernel
theorem dL_refuses_302 : decode cL_refuses 302 = .ok (.invokestatic 81, 3) := by decide +kernel
theorem dL_refuses_305 : decode cL_refuses 305 = .ok (.ldc2_w 21, 3) := by decide +kernel
theorem dL_refuses_308 : decode cL_refuses 308 = .ok (.lcmp, 1) := by decide +kernel
theorem dL_refuses_309 : decode cL_refuses 309 = .ok (.ifCond .ne 148, 3) := by decide +kernel
theorem dL_refuses_312 : decode cL_refuses 312 = .ok (.aload_n 0, 1) := by decide +kernel
theorem dL_refuses_313 : decode cL_refuses 313 = .ok (.iconst 0, 1) := by decide +kernel
theorem dL_refuses_314 : decode cL_refuses 314 = .ok (.iconst (-1), 1) := by decide +kernel
theorem dL_refuses_315 : decode cL_refuses 315 = .ok (.iconst 0, 1) := by decide +kernel
theorem dL_refuses_316 : decode cL_refuses 316 = .ok (.invokestatic 88, 3) := by decide +kernel
theorem dL_refuses_319 : decode cL_refuses 319 = .ok (.ldc2_w 17, 3) := by decide +kernel
theorem dL_refuses_322 : decode cL_refuses 322 = .ok (.lcmp, 1) := by decide +kernel
theorem dL_refuses_323 : decode cL_refuses 323 = .ok (.ifCond .ne 134, 3) := by decide +kernel
theorem dL_refuses_326 : decode cL_refuses 326 = .ok (.aload_n 0, 1) := by decide +kernel
theorem dL_refuses_327 : decode cL_refuses 327 = .ok (.iconst 0, 1) := by decide +kernel
theorem dL_refuses_328 : decode cL_refuses 328 = .ok (.iconst 0, 1) := by decide +kernel
theorem dL_refuses_329 : decode cL_refuses 329 = .ok (.bipush 6, 2) := by decide +kernel
theorem dL_refuses_331 : decode cL_refuses 331 = .ok (.invokestatic 88, 3) := by decide +kernel
theorem dL_refuses_334 : decode cL_refuses 334 = .ok (.ldc2_w 21, 3) := by decide +kernel
theorem dL_refuses_337 : decode cL_refuses 337 = .ok (.lcmp, 1) := by decide +kernel
theorem dL_refuses_338 : decode cL_refuses 338 = .ok (.ifCond .ne 119, 3) := by decide +kernel
theorem dL_refuses_341 : decode cL_refuses 341 = .ok (.aload_n 0, 1) := by decide +kernel
theorem dL_refuses_342 : decode cL_refuses 342 = .ok (.iconst 0, 1) := by decide +kernel
theorem dL_refuses_343 : decode cL_refuses 343 = .ok (.iconst (-1), 1) := by decide +kernel
theorem dL_refuses_344 : decode cL_refuses 344 = .ok (.invokestatic 106, 3) := by decide +kernel
theorem dL_refuses_347 : decode cL_refuses 347 = .ok (.ldc2_w 17, 3) := by decide +kernel
theorem dL_refuses_350 : decode cL_refuses 350 = .ok (.lcmp, 1) := by decide +kernel
theorem dL_refuses_351 : decode cL_refuses 351 = .ok (.ifCond .ne 106, 3) := by decide +kernel
theorem dL_refuses_354 : decode cL_refuses 354 = .ok (.aload_n 0, 1) := by decide +kernel
theorem dL_refuses_355 : decode cL_refuses 355 = .ok (.bipush 10, 2) := by decide +kernel
theorem dL_refuses_357 : decode cL_refuses 357 = .ok (.iconst 0, 1) := by decide +kernel
theorem dL_refuses_358 : decode cL_refuses 358 = .ok (.invokestatic 108, 3) := by decide +kernel
theorem dL_refuses_361 : decode cL_refuses 361 = .ok (.ldc2_w 17, 3) := by decide +kernel
theorem dL_refuses_364 : decode cL_refuses 364 = .ok (.lcmp, 1) := by decide +kernel
theorem dL_refuses_365 : decode cL_refuses 365 = .ok (.ifCond .ne 92, 3) := by decide +kernel
theorem dL_refuses_368 : decode cL_refuses 368 = .ok (.aload_n 0, 1) := by decide +kernel
theorem dL_refuses_369 : decode cL_refuses 369 = .ok (.bipush 10, 2) := by decide +kernel
theorem dL_refuses_371 : decode cL_refuses 371 = .ok (.iconst 0, 1) := by decide +kernel
theorem dL_refuses_372 : decode cL_refuses 372 = .ok (.iconst 0, 1) := by decide +kernel
theorem dL_refuses_373 : decode cL_refuses 373 = .ok (.invokestatic 136, 3) := by decide +kernel
theorem dL_refuses_376 : decode cL_refuses 376 = .ok (.ldc2_w 17, 3) := by decide +kernel
theorem dL_refuses_379 : decode cL_refuses 379 = .ok (.lcmp, 1) := by decide +kernel
theorem dL_refuses_380 : decode cL_refuses 380 = .ok (.ifCond .ne 77, 3) := by decide +kernel
theorem dL_refuses_383 : decode cL_refuses 383 = .ok (.aload_n 0, 1) := by decide +kernel
theorem dL_refuses_384 : decode cL_refuses 384 = .ok (.bipush 40, 2) := by decide +kernel
theorem dL_refuses_386 : decode cL_refuses 386 = .ok (.invokestatic 116, 3) := by decide +kernel
theorem dL_refuses_389 : decode cL_refuses 389 = .ok (.ldc2_w 17, 3) := by decide +kernel
theorem dL_refuses_392 : decode cL_refuses 392 = .ok (.lcmp, 1) := by decide +kernel
theorem dL_refuses_393 : decode cL_refuses 393 = .ok (.ifCond .ne 64, 3) := by decide +kernel
theorem dL_refuses_396 : decode cL_refuses 396 = .ok (.aload_n 0, 1) := by decide +kernel
theorem dL_refuses_397 : decode cL_refuses 397 = .ok (.iconst 3, 1) := by decide +kernel
theorem dL_refuses_398 : decode cL_refuses 398 = .ok (.iconst 0, 1) := by decide +kernel
theorem dL_refuses_399 : decode cL_refuses 399 = .ok (.invokestatic 97, 3) := by decide +kernel
theorem dL_refuses_402 : decode cL_refuses 402 = .ok (.ldc2_w 21, 3) := by decide +kernel
theorem dL_refuses_405 : decode cL_refuses 405 = .ok (.lcmp, 1) := by decide +kernel
theorem dL_refuses_406 : decode cL_refuses 406 = .ok (.ifCond .ne 51, 3) := by decide +kernel
theorem dL_refuses_409 : decode cL_refuses 409 = .ok (.aload_n 0, 1) := by decide +kernel
theorem dL_refuses_410 : decode cL_refuses 410 = .ok (.iconst 0, 1) := by decide +kernel
theorem dL_refuses_411 : decode cL_refuses 411 = .ok (.iconst 4, 1) := by decide +kernel
theorem dL_refuses_412 : decode cL_refuses 412 = .ok (.invokestatic 97, 3) := by decide +kernel
theorem dL_refuses_415 : decode cL_refuses 415 = .ok (.ldc2_w 21, 3) := by decide +kernel
theorem dL_refuses_418 : decode cL_refuses 418 = .ok (.lcmp, 1) := by decide +kernel
theorem dL_refuses_419 : decode cL_refuses 419 = .ok (.ifCond .ne 38, 3) := by decide +kernel
theorem dL_refuses_422 : decode cL_refuses 422 = .ok (.aload_n 0, 1) := by decide +kernel
theorem dL_refuses_423 : decode cL_refuses 423 = .ok (.iconst 2, 1) := by decide +kernel
theorem dL_refuses_424 : decode cL_refuses 424 = .ok (.invokestatic 99, 3) := by decide +kernel
theorem dL_refuses_427 : decode cL_refuses 427 = .ok (.ldc2_w 21, 3) := by decide +kernel
theorem dL_refuses_430 : decode cL_refuses 430 = .ok (.lcmp, 1) := by decide +kernel
theorem dL_refuses_431 : decode cL_refuses 431 = .ok (.ifCond .ne 26, 3) := by decide +kernel
theorem dL_refuses_434 : decode cL_refuses 434 = .ok (.aload_n 0, 1) := by decide +kernel
theorem dL_refuses_435 : decode cL_refuses 435 = .ok (.invokevirtual 112, 3) := by decide +kernel
theorem dL_refuses_438 : decode cL_refuses 438 = .ok (.iload_n 1, 1) := by decide +kernel
theorem dL_refuses_439 : decode cL_refuses 439 = .ok (.if_icmp .ne 18, 3) := by decide +kernel
theorem dL_refuses_442 : decode cL_refuses 442 = .ok (.aload_n 0, 1) := by decide +kernel
theorem dL_refuses_443 : decode cL_refuses 443 = .ok (.iconst 0, 1) := by decide +kernel
theorem dL_refuses_444 : decode cL_refuses 444 = .ok (.iconst 0, 1) := by decide +kernel
theorem dL_refuses_445 : decode cL_refuses 445 = .ok (.invokestatic 97, 3) := by decide +kernel
theorem dL_refuses_448 : decode cL_refuses 448 = .ok (.lload_n 2, 1) := by decide +kernel
theorem dL_refuses_449 : decode cL_refuses 449 = .ok (.lcmp, 1) := by decide +kernel
theorem dL_refuses_450 : decode cL_refuses 450 = .ok (.ifCond .ne 7, 3) := by decide +kernel
theorem dL_refuses_453 : decode cL_refuses 453 = .ok (.iconst 1, 1) := by decide +kernel
theorem dL_refuses_454 : decode cL_refuses 454 = .ok (.goto 4, 3) := by decide +kernel
theorem dL_refuses_457 : decode cL_refuses 457 = .ok (.iconst 0, 1) := by decide +kernel
theorem dL_refuses_458 : decode cL_refuses 458 = .ok (.ireturn, 1) := by decide +kernel
set_option maxRecDepth 20000 in
theorem ggL_law_X5_init : GoodIn wsL_law wsX5_init := goodIn_r _ [11, 12, 13, 14, 15, 16, 17, 18, 19, 20, 21, 22, 23, 24, 25, 3, 26, 27, 28, 29, 30, 31, 32, 33, 34, 35, 36, 37, 38, 39, 40, 41, 42, 43, 44, 45, 46, 47, 48, 49, 50, 51, 52, 53, 54, 55, 56, 57, 58, 59, 60, 61, 62, 63, 64, 65, 66, 2, 67, 68, 69, 70, 71, 72, 73, 74, 75, 76, 77, 78, 79, 80, 553, 554, 555, 556, 557, 558, 559, 560, 561, 562, 563, 564, 565, 566, 567, 568, 569, 570, 571, 572, 573, 574, 575, 576] (by decide +kernel) (by decide +kernel)
set_option maxRecDepth 20000 in
theorem gL_law_X5_init : GoodIn wsL_law (wsX5_init) := ggL_law_X5_init
set_option maxRecDepth 20000 in
theorem ggL_law_L_draw : GoodIn wsL_law wsL_draw := goodIn_r _ [84, 85, 86] (by decide +kernel) (by decide +kernel)
set_option maxRecDepth 20000 in
theorem gL_law_L_draw : GoodIn wsL_law (va_wsS RL 139 yL_draw wsL_draw) := goodIn_app (goodIn_of _ (by decide +kernel)) ggL_law_L_draw
set_option maxRecDepth 20000 in
theorem ggL_law_X5_month : GoodIn wsL_law wsX5_month := goodIn_r _ [90, 91, 553, 554, 555, 556, 557, 558, 559, 560, 561, 562] (by decide +kernel) (by decide +kernel)
set_option maxRecDepth 20000 in
theorem gL_law_X5_month : GoodIn wsL_law (wsV RL 112 RX5 yX5_month wsX5_month) := goodIn_app (goodIn_of _ (by decide +kernel)) ggL_law_X5_month
set_option maxRecDepth 20000 in
theorem ggL_law_L_pass : GoodIn wsL_law wsL_pass := goodIn_ca (goodIn_ca (goodIn_r _ [94, 95, 96, 97, 7, 98, 99, 100, 2, 101, 91, 102, 103, 104, 105, 106, 107, 108, 109, 110, 111, 112, 113, 114, 115, 116, 117, 118, 119, 16, 120, 121, 122, 123, 124, 125, 126, 127, 128, 24, 129, 130, 131, 30, 132, 52, 133, 134, 135, 136, 54, 137, 138, 139, 51, 140, 61, 77, 78, 79, 80, 60, 63, 141, 142, 143, 144, 72, 145, 146, 147, 148, 149, 150, 151, 152, 153, 20, 154, 155, 156, 157, 158, 159, 160, 161, 19, 162, 163, 164, 165, 166, 167, 168, 169, 170, 171, 172, 173, 174, 175, 176, 177, 178, 179, 35, 180, 181, 182, 183, 184, 185, 186, 187, 53, 188, 189, 190, 191, 192, 193, 194, 195, 196, 197, 198, 199, 200, 201, 202, 203, 204, 205, 206, 207, 208, 209, 210, 211, 212, 213, 214, 215, 216, 217, 218, 219, 220, 221, 222, 223, 224, 225, 226, 227, 228, 229, 230, 231, 232, 25, 233, 234, 235, 236, 237, 238, 239, 240, 241, 242, 243, 62, 244, 245, 246, 247, 248, 249, 250, 251, 252, 253, 254, 255, 256, 257, 258, 21, 259, 260, 261, 262, 263, 264, 265, 266, 267, 268, 269, 553, 554, 555, 556, 557, 558, 559, 560, 561, 562, 566, 567, 568, 569, 570, 571, 572, 573, 574, 575, 576, 577, 578, 579, 580, 581, 563, 564, 565, 582, 583, 584, 585, 586] (by decide +kernel) (by decide +kernel)) (goodIn_sub (fun _ h => List.mem_append_left _ (List.mem_append_left _ (List.mem_append_right _ h))) (by decide +kernel))) (goodIn_sub (fun _ h => List.mem_append_left _ (List.mem_append_right _ h)) (by decide +kernel))
set_option maxRecDepth 20000 in
theorem gL_law_L_pass : GoodIn wsL_law (va_wsS RL 123 yL_pass wsL_pass) := goodIn_app (goodIn_of _ (by decide +kernel)) ggL_law_L_pass
set_option maxRecDepth 20000 in
theorem ggL_law_L_cellOf : GoodIn wsL_law wsL_cellOf := goodIn_ca (goodIn_ca (goodIn_r _ [272, 273, 95, 8, 97, 274, 275, 276, 2, 277, 16, 278, 202, 120, 233, 279, 280, 281, 282, 283, 284, 285, 102, 103, 104, 105, 106, 286, 287, 288, 289, 290, 291, 292, 293, 28, 294, 295, 296, 297, 26, 207, 298, 299, 300, 301, 208, 209, 210, 302, 303, 304, 30, 305, 52, 306, 252, 253, 51, 254, 61, 553, 554, 555, 556, 557, 558, 559, 560, 561, 562, 566, 567, 568, 569, 570, 571, 572, 573, 574, 575, 576] (by decide +kernel) (by decide +kernel)) (goodIn_sub (fun _ h => List.mem_append_right _ h) (by decide +kernel))) (goodIn_sub (fun _ h => List.mem_append_left _ (List.mem_append_left _ (List.mem_append_right _ h))) (by decide +kernel))
set_option maxRecDepth 20000 in
theorem gL_law_L_cellOf : GoodIn wsL_law (va_wsS RL 81 yL_cellOf wsL_cellOf) := goodIn_app (goodIn_of _ (by decide +kernel)) ggL_law_L_cellOf
set_option maxRecDepth 20000 in
theorem ggL_law_L_ground : GoodIn wsL_law wsL_ground := goodIn_ca (goodIn_ca (goodIn_r _ [309, 273, 95, 8, 97, 310, 311, 312, 2, 313, 16, 157, 24, 314, 315, 158, 234, 281, 282, 283, 284, 285, 102, 103, 104, 105, 106, 316, 74, 75, 51, 76, 61, 62, 77, 78, 79, 80, 60, 63, 553, 554, 555, 556, 557, 558, 559, 560, 561, 562, 566, 567, 568, 569, 570, 571, 572, 573, 574, 575, 576] (by decide +kernel) (by decide +kernel)) (goodIn_sub (fun _ h => List.mem_append_right _ h) (by decide +kernel))) (goodIn_sub (fun _ h => List.mem_append_left _ (List.mem_append_left _ (List.mem_append_right _ h))) (by decide +kernel))
set_option maxRecDepth 20000 in
theorem gL_law_L_ground : GoodIn wsL_law (va_wsS RL 118 yL_ground wsL_ground) := goodIn_app (goodIn_of _ (by decide +kernel)) ggL_law_L_ground
set_option maxRecDepth 20000 in
theorem ggL_law_L_layerOf : GoodIn wsL_law wsL_layerOf := goodIn_ca (goodIn_ca (goodIn_r _ [319, 273, 95, 8, 97, 320, 321, 322, 2, 323, 16, 157, 158, 314, 315, 234, 281, 282, 283, 284, 285, 102, 103, 104, 105, 106, 324, 138, 139, 51, 140, 61, 77, 78, 79, 80, 60, 63, 325, 194, 195, 196, 192, 134, 123, 135, 197, 122, 124, 553, 554, 555, 556, 557, 558, 559, 560, 561, 562, 566, 567, 568, 569, 570, 571, 572, 573, 574, 575, 576] (by decide +kernel) (by decide +kernel)) (goodIn_sub (fun _ h => List.mem_append_right _ h) (by decide +kernel))) (goodIn_sub (fun _ h => List.mem_append_left _ (List.mem_append_left _ (List.mem_append_right _ h))) (by decide +kernel))
set_option maxRecDepth 20000 in
theorem gL_law_L_layerOf : GoodIn wsL_law (va_wsS RL 88 yL_layerOf wsL_layerOf) := goodIn_app (goodIn_of _ (by decide +kernel)) ggL_law_L_layerOf
set_option maxRecDepth 20000 in
theorem ggL_law_L_air : GoodIn wsL_law wsL_air := goodIn_ca (goodIn_r _ [328, 95, 97, 329, 330, 331, 2, 332, 25, 102, 103, 104, 105, 106, 553, 554, 555, 556, 557, 558, 559, 560, 561, 562] (by decide +kernel) (by decide +kernel)) (goodIn_sub (fun _ h => List.mem_append_left _ (List.mem_append_left _ (List.mem_append_right _ h))) (by decide +kernel))
set_option maxRecDepth 20000 in
theorem gL_law_L_air : GoodIn wsL_law (va_wsS RL 99 yL_air wsL_air) := goodIn_app (goodIn_of _ (by decide +kernel)) ggL_law_L_air
set_option maxRecDepth 20000 in
theorem ggL_law_L_fire : GoodIn wsL_law wsL_fire := goodIn_ca (goodIn_ca (goodIn_r _ [335, 273, 96, 8, 7, 336, 337, 338, 2, 339, 16, 120, 157, 234, 233, 25, 281, 282, 283, 284, 285, 235, 142, 143, 30, 144, 72, 107, 108, 109, 110, 111, 553, 554, 555, 556, 557, 558, 559, 560, 561, 562, 566, 567, 568, 569, 570, 571, 572, 573, 574, 575, 576] (by decide +kernel) (by decide +kernel)) (goodIn_sub (fun _ h => List.mem_append_right _ h) (by decide +kernel))) (goodIn_sub (fun _ h => List.mem_append_left _ (List.mem_append_right _ h)) (by decide +kernel))
set_option maxRecDepth 20000 in
theorem gL_law_L_fire : GoodIn wsL_law (va_wsS RL 125 yL_fire wsL_fire) := goodIn_app (goodIn_of _ (by decide +kernel)) ggL_law_L_fire
set_option maxRecDepth 20000 in
theorem ggL_law_L_moss : GoodIn wsL_law wsL_moss := goodIn_ca (goodIn_ca (goodIn_r _ [342, 273, 95, 8, 97, 343, 344, 345, 2, 346, 16, 233, 281, 282, 283, 284, 285, 102, 103, 104, 105, 106, 553, 554, 555, 556, 557, 558, 559, 560, 561, 562, 566, 567, 568, 569, 570, 571, 572] (by decide +kernel) (by decide +kernel)) (goodIn_sub (fun _ h => List.mem_append_right _ h) (by decide +kernel))) (goodIn_sub (fun _ h => List.mem_append_left _ (List.mem_append_left _ (List.mem_append_right _ h))) (by decide +kernel))
set_option maxRecDepth 20000 in
theorem gL_law_L_moss : GoodIn wsL_law (va_wsS RL 121 yL_moss wsL_moss) := goodIn_app (goodIn_of _ (by decide +kernel)) ggL_law_L_moss
set_option maxRecDepth 20000 in
theorem ggL_law_L_balance : GoodIn wsL_law wsL_balance := goodIn_ca (goodIn_r _ [349, 95, 97, 350, 351, 352, 2, 353, 24, 102, 103, 104, 105, 106, 64, 65, 66, 67, 16, 68, 69, 70, 30, 71, 72, 52, 73, 74, 75, 51, 76, 61, 62, 77, 78, 79, 80, 60, 63, 354, 355, 356, 357, 358, 359, 25, 553, 554, 555, 556, 557, 558, 559, 560, 561, 562, 566, 567, 568, 569, 570, 571, 572, 573, 574, 575, 576] (by decide +kernel) (by decide +kernel)) (goodIn_sub (fun _ h => List.mem_append_left _ (List.mem_append_left _ (List.mem_append_right _ h))) (by decide +kernel))
set_option maxRecDepth 20000 in
theorem gL_law_L_balance : GoodIn wsL_law (va_wsS RL 97 yL_balance wsL_balance) := goodIn_app (goodIn_of _ (by decide +kernel)) ggL_law_L_balance
set_option maxRecDepth 20000 in
theorem ggL_law_L_breach : GoodIn wsL_law wsL_breach := goodIn_ca (goodIn_ca (goodIn_r _ [362, 273, 96, 8, 7, 363, 364, 365, 2, 366, 16, 202, 26, 359, 281, 282, 283, 284, 285, 107, 108, 109, 110, 111, 286, 287, 288, 289, 290, 291, 292, 293, 28, 294, 295, 296, 297, 207, 298, 299, 300, 301, 208, 209, 210, 553, 554, 555, 556, 557, 558, 559, 560, 561, 562, 566, 567, 568, 569, 570, 571, 572] (by decide +kernel) (by decide +kernel)) (goodIn_sub (fun _ h => List.mem_append_right _ h) (by decide +kernel))) (goodIn_sub (fun _ h => List.mem_append_left _ (List.mem_append_right _ h)) (by decide +kernel))
set_option maxRecDepth 20000 in
theorem gL_law_L_breach : GoodIn wsL_law (va_wsS RL 127 yL_breach wsL_breach) := goodIn_app (goodIn_of _ (by decide +kernel)) ggL_law_L_breach
set_option maxRecDepth 20000 in
theorem ggL_law_L_house : GoodIn wsL_law wsL_house := goodIn_ca (goodIn_ca (goodIn_r _ [369, 273, 96, 8, 7, 370, 371, 372, 2, 373, 16, 280, 20, 374, 375, 376, 91, 281, 282, 283, 284, 285, 235, 142, 143, 30, 144, 72, 159, 160, 161, 19, 162, 163, 107, 108, 109, 110, 111, 377, 378, 379, 380, 13, 14, 381, 382, 383, 384, 385, 386, 387, 388, 389, 390, 35, 391, 392, 393, 394, 395, 396, 397, 398, 399, 400, 401, 402, 34, 403, 134, 123, 135, 404, 405, 406, 407, 408, 409, 410, 411, 412, 413, 414, 415, 416, 417, 418, 419, 420, 421, 422, 423, 424, 425, 426, 427, 122, 124, 428, 429, 430, 431, 553, 554, 555, 556, 557, 558, 559, 560, 561, 562, 566, 567, 568, 569, 570, 571, 572, 577, 578, 579, 580, 581, 563, 564, 565] (by decide +kernel) (by decide +kernel)) (goodIn_sub (fun _ h => List.mem_append_right _ h) (by decide +kernel))) (goodIn_sub (fun _ h => List.mem_append_left _ (List.mem_append_right _ h)) (by decide +kernel))
set_option maxRecDepth 20000 in
theorem gL_law_L_house : GoodIn wsL_law (va_wsS RL 129 yL_house wsL_house) := goodIn_app (goodIn_of _ (by decide +kernel)) ggL_law_L_house
set_option maxRecDepth 20000 in
theorem ggL_law_L_houseOf : GoodIn wsL_law wsL_houseOf := goodIn_ca (goodIn_ca (goodIn_r _ [434, 273, 95, 8, 97, 435, 436, 437, 2, 438, 20, 154, 156, 249, 250, 439, 91, 159, 160, 161, 19, 162, 163, 281, 282, 283, 284, 285, 102, 103, 104, 105, 106, 164, 165, 166, 167, 168, 169, 170, 171, 172, 173, 174, 175, 176, 177, 178, 179, 35, 440, 441, 442, 443, 121, 122, 123, 124, 444, 445, 446, 447, 448, 449, 450, 451, 21, 259, 260, 452, 453, 454, 264, 455, 456, 266, 457, 458, 459, 460, 268, 553, 554, 555, 556, 557, 558, 559, 560, 561, 562, 577, 578, 579, 580, 581, 563, 564, 565, 582, 583, 584, 585, 586] (by decide +kernel) (by decide +kernel)) (goodIn_sub (fun _ h => List.mem_append_right _ h) (by decide +kernel))) (goodIn_sub (fun _ h => List.mem_append_left _ (List.mem_append_left _ (List.mem_append_right _ h))) (by decide +kernel))
set_option maxRecDepth 20000 in
theorem gL_law_L_houseOf : GoodIn wsL_law (va_wsS RL 108 yL_houseOf wsL_houseOf) := goodIn_app (goodIn_of _ (by decide +kernel)) ggL_law_L_houseOf
set_option maxRecDepth 20000 in
theorem ggL_law_L_borehole : GoodIn wsL_law wsL_borehole := goodIn_ca (goodIn_ca (goodIn_ca (goodIn_r _ [463, 273, 95, 96, 8, 97, 7, 464, 465, 466, 2, 467, 21, 468, 469, 264, 91, 281, 282, 283, 284, 285, 102, 103, 104, 105, 106, 159, 160, 161, 19, 162, 163, 107, 108, 109, 110, 111, 470, 471, 472, 473, 13, 14, 474, 267, 456, 475, 134, 123, 135, 3, 268, 385, 386, 387, 388, 389, 390, 35, 391, 392, 393, 394, 395, 396, 397, 398, 399, 400, 401, 402, 34, 403, 404, 405, 406, 407, 408, 409, 410, 411, 412, 413, 414, 415, 416, 417, 418, 419, 420, 421, 422, 423, 424, 425, 426, 427, 122, 124, 428, 429, 430, 431, 553, 554, 555, 556, 557, 558, 559, 560, 561, 562, 582, 583, 584, 585, 586, 563, 564, 565] (by decide +kernel) (by decide +kernel)) (goodIn_sub (fun _ h => List.mem_append_right _ h) (by decide +kernel))) (goodIn_sub (fun _ h => List.mem_append_left _ (List.mem_append_left _ (List.mem_append_right _ h))) (by decide +kernel))) (goodIn_sub (fun _ h => List.mem_append_left _ (List.mem_append_right _ h)) (by decide +kernel))
set_option maxRecDepth 20000 in
theorem gL_law_L_borehole : GoodIn wsL_law (va_wsS RL 132 yL_borehole wsL_borehole) := goodIn_app (goodIn_of _ (by decide +kernel)) ggL_law_L_borehole
set_option maxRecDepth 20000 in
theorem ggL_law_L_claim : GoodIn wsL_law wsL_claim := goodIn_ca (goodIn_ca (goodIn_r _ [478, 273, 96, 8, 7, 479, 480, 481, 2, 482, 20, 22, 154, 483, 484, 485, 91, 250, 159, 160, 161, 19, 162, 163, 281, 282, 283, 284, 285, 107, 108, 109, 110, 111, 164, 165, 166, 167, 168, 169, 170, 171, 172, 173, 174, 175, 176, 177, 178, 179, 35, 440, 441, 442, 443, 121, 122, 123, 124, 444, 445, 446, 447, 439, 448, 449, 450, 451, 21, 259, 260, 156, 249, 452, 453, 454, 264, 455, 456, 266, 457, 458, 459, 460, 268, 486, 487, 488, 489, 13, 14, 490, 491, 492, 493, 494, 385, 386, 387, 388, 389, 390, 391, 392, 393, 394, 395, 396, 397, 398, 399, 400, 401, 402, 34, 403, 134, 135, 404, 405, 406, 407, 408, 409, 410, 411, 412, 413, 414, 415, 416, 417, 418, 419, 420, 421, 422, 423, 424, 425, 426, 427, 428, 429, 430, 431, 553, 554, 555, 556, 557, 558, 559, 560, 561, 562, 587, 588, 589, 590, 577, 578, 579, 580, 581, 563, 564, 565, 582, 583, 584, 585, 586] (by decide +kernel) (by decide +kernel)) (goodIn_sub (fun _ h => List.mem_append_right _ h) (by decide +kernel))) (goodIn_sub (fun _ h => List.mem_append_left _ (List.mem_append_right _ h)) (by decide +kernel))
set_option maxRecDepth 20000 in
theorem gL_law_L_claim : GoodIn wsL_law (va_wsS RL 134 yL_claim wsL_claim) := goodIn_app (goodIn_of _ (by decide +kernel)) ggL_law_L_claim
set_option maxRecDepth 20000 in
theorem ggL_law_L_claimOf : GoodIn wsL_law wsL_claimOf := goodIn_ca (goodIn_r _ [497, 273, 8, 498, 499, 500, 2, 501, 22, 502, 503, 159, 160, 161, 19, 162, 163, 281, 282, 283, 284, 285, 164, 165, 166, 167, 168, 169, 170, 171, 172, 173, 174, 175, 176, 177, 178, 179, 35, 553, 554, 555, 556, 557, 558, 559, 560, 561, 562, 587, 588, 589, 590, 563, 564, 565] (by decide +kernel) (by decide +kernel)) (goodIn_sub (fun _ h => List.mem_append_right _ h) (by decide +kernel))
set_option maxRecDepth 20000 in
theorem gL_law_L_claimOf : GoodIn wsL_law (va_wsS RL 110 yL_claimOf wsL_claimOf) := goodIn_app (goodIn_of _ (by decide +kernel)) ggL_law_L_claimOf
set_option maxRecDepth 20000 in
theorem ggL_law_L_reading : GoodIn wsL_law wsL_reading := goodIn_ca (goodIn_r _ [506, 273, 8, 507, 508, 509, 2, 510, 284, 285, 21, 259, 159, 160, 161, 19, 162, 163, 281, 282, 283, 164, 165, 166, 167, 168, 169, 170, 171, 172, 173, 174, 175, 176, 177, 178, 179, 35, 452, 453, 454, 264, 455, 456, 266, 457, 458, 459, 460, 268, 553, 554, 555, 556, 557, 558, 559, 560, 561, 562, 563, 564, 565, 582, 583, 584, 585, 586] (by decide +kernel) (by decide +kernel)) (goodIn_sub (fun _ h => List.mem_append_right _ h) (by decide +kernel))
set_option maxRecDepth 20000 in
theorem gL_law_L_reading : GoodIn wsL_law (va_wsS RL 136 yL_reading wsL_reading) := goodIn_app (goodIn_of _ (by decide +kernel)) ggL_law_L_reading
set_option maxRecDepth 20000 in
theorem ggL_law_L_balances : GoodIn wsL_law wsL_balances := goodIn_ca (goodIn_ca (goodIn_r _ [513, 514, 515, 5, 516, 270, 271, 83, 272, 273, 95, 8, 97, 274, 275, 276, 2, 277, 16, 278, 202, 120, 233, 279, 280, 281, 282, 283, 284, 285, 102, 103, 104, 105, 106, 286, 287, 288, 289, 290, 291, 292, 293, 28, 294, 295, 296, 297, 26, 207, 298, 299, 300, 301, 208, 209, 210, 302, 303, 304, 30, 305, 52, 306, 252, 253, 51, 254, 61, 317, 318, 319, 320, 321, 322, 323, 157, 158, 314, 315, 234, 324, 138, 139, 140, 77, 78, 79, 80, 60, 63, 325, 194, 195, 196, 192, 134, 123, 135, 197, 122, 124, 347, 348, 349, 350, 351, 352, 353, 24, 64, 65, 66, 67, 68, 69, 70, 71, 72, 73, 74, 75, 76, 62, 354, 355, 356, 357, 358, 359, 25, 326, 327, 328, 329, 330, 331, 332, 553, 554, 555, 556, 557, 558, 559, 560, 561, 562, 566, 567, 568, 569, 570, 571, 572, 573, 574, 575, 576] (by decide +kernel) (by decide +kernel)) (goodIn_sub (fun _ h => List.mem_append_right _ h) (by decide +kernel))) (goodIn_sub (fun _ h => List.mem_append_left _ (List.mem_append_left _ (List.mem_append_right _ h))) (by decide +kernel))
set_option maxRecDepth 20000 in
theorem gL_law_L_balances : GoodIn wsL_law (va_wsS RL 146 yL_balances wsL_balances) := goodIn_app (goodIn_of _ (by decide +kernel)) ggL_law_L_balances
set_option maxRecDepth 20000 in
theorem ggL_law_L_cellHolds : GoodIn wsL_law wsL_cellHolds := goodIn_ca (goodIn_ca (goodIn_r _ [519, 520, 514, 515, 521, 317, 318, 83, 319, 273, 95, 8, 97, 320, 321, 322, 2, 323, 16, 157, 158, 314, 315, 234, 281, 282, 283, 284, 285, 102, 103, 104, 105, 106, 324, 138, 139, 51, 140, 61, 77, 78, 79, 80, 60, 63, 325, 194, 195, 196, 192, 134, 123, 135, 197, 122, 124, 270, 271, 272, 274, 275, 276, 277, 278, 202, 120, 233, 279, 280, 286, 287, 288, 289, 290, 291, 292, 293, 28, 294, 295, 296, 297, 26, 207, 298, 299, 300, 301, 208, 209, 210, 302, 303, 304, 30, 305, 52, 306, 252, 253, 254, 522, 523, 524, 525, 526, 527, 528, 553, 554, 555, 556, 557, 558, 559, 560, 561, 562, 566, 567, 568, 569, 570, 571, 572, 573, 574, 575, 576] (by decide +kernel) (by decide +kernel)) (goodIn_sub (fun _ h => List.mem_append_right _ h) (by decide +kernel))) (goodIn_sub (fun _ h => List.mem_append_left _ (List.mem_append_left _ (List.mem_append_right _ h))) (by decide +kernel))
set_option maxRecDepth 20000 in
theorem gL_law_L_cellHolds : GoodIn wsL_law (va_wsS RL 150 yL_cellHolds wsL_cellHolds) := goodIn_app (goodIn_of _ (by decide +kernel)) ggL_law_L_cellHolds
set_option maxRecDepth 20000 in
theorem ggL_law_L_claimsHold : GoodIn wsL_law wsL_claimsHold := goodIn_ca (goodIn_ca (goodIn_r _ [531, 8, 520, 432, 433, 83, 434, 273, 95, 97, 435, 436, 437, 2, 438, 20, 154, 156, 249, 250, 439, 91, 159, 160, 161, 19, 162, 163, 281, 282, 283, 284, 285, 102, 103, 104, 105, 106, 164, 165, 166, 167, 168, 169, 170, 171, 172, 173, 174, 175, 176, 177, 178, 179, 35, 440, 441, 442, 443, 121, 122, 123, 124, 444, 445, 446, 447, 448, 449, 450, 451, 21, 259, 260, 452, 453, 454, 264, 455, 456, 266, 457, 458, 459, 460, 268, 495, 496, 497, 498, 499, 500, 501, 22, 502, 503, 87, 88, 89, 90, 270, 271, 272, 274, 275, 276, 277, 16, 278, 202, 120, 233, 279, 280, 286, 287, 288, 289, 290, 291, 292, 293, 28, 294, 295, 296, 297, 26, 207, 298, 299, 300, 301, 208, 209, 210, 302, 303, 304, 30, 305, 52, 306, 252, 253, 51, 254, 61, 532, 533, 534, 535, 536, 537, 538, 539, 540, 541, 553, 554, 555, 556, 557, 558, 559, 560, 561, 562, 577, 578, 579, 580, 581, 563, 564, 565, 582, 583, 584, 585, 586, 587, 588, 589, 590, 566, 567, 568, 569, 570, 571, 572, 573, 574, 575, 576] (by decide +kernel) (by decide +kernel)) (goodIn_sub (fun _ h => List.mem_append_right _ h) (by decide +kernel))) (goodIn_sub (fun _ h => List.mem_append_left _ (List.mem_append_left _ (List.mem_append_right _ h))) (by decide +kernel))
set_option maxRecDepth 20000 in
theorem gL_law_L_claimsHold : GoodIn wsL_law (va_wsS RL 154 yL_claimsHold wsL_claimsHold) := goodIn_app (goodIn_of _ (by decide +kernel)) ggL_law_L_claimsHold
set_option maxRecDepth 20000 in
theorem ggL_law_X5_lakes : GoodIn wsL_law wsX5_lakes := goodIn_r _ [545, 290, 291, 292, 2, 293, 28, 294, 295, 296, 297, 26, 207, 298, 299, 300, 301, 16, 202, 208, 209, 210, 546, 547, 548, 549, 235, 142, 143, 30, 144, 72, 553, 554, 555, 556, 557, 558, 559, 560, 561, 562, 566, 567, 568, 569, 570, 571, 572] (by decide +kernel) (by decide +kernel)
set_option maxRecDepth 20000 in
theorem gL_law_X5_lakes : GoodIn wsL_law (wsV RL 158 RX5 yX5_lakes wsX5_lakes) := goodIn_app (goodIn_of _ (by decide +kernel)) ggL_law_X5_lakes
set_option maxRecDepth 20000 in
theorem ggL_law_L_refuses : GoodIn wsL_law wsL_refuses := goodIn_ca (goodIn_ca (goodIn_ca (goodIn_r _ [552, 8, 97, 87, 88, 89, 2, 90, 91, 347, 348, 83, 349, 95, 350, 351, 352, 353, 24, 102, 103, 104, 105, 106, 64, 65, 66, 67, 16, 68, 69, 70, 30, 71, 72, 52, 73, 74, 75, 51, 76, 61, 62, 77, 78, 79, 80, 60, 63, 354, 355, 356, 357, 358, 359, 25, 307, 308, 309, 273, 310, 311, 312, 313, 157, 314, 315, 158, 234, 281, 282, 283, 284, 285, 316, 340, 341, 342, 343, 344, 345, 346, 233, 92, 93, 94, 96, 7, 98, 99, 100, 101, 107, 108, 109, 110, 111, 112, 113, 114, 115, 116, 117, 118, 119, 120, 121, 122, 123, 124, 125, 126, 127, 128, 129, 130, 131, 132, 133, 134, 135, 136, 54, 137, 138, 139, 140, 141, 142, 143, 144, 145, 146, 147, 148, 149, 150, 151, 152, 153, 20, 154, 155, 156, 159, 160, 161, 19, 162, 163, 164, 165, 166, 167, 168, 169, 170, 171, 172, 173, 174, 175, 176, 177, 178, 179, 35, 180, 181, 182, 183, 184, 185, 186, 187, 53, 188, 189, 190, 191, 192, 193, 194, 195, 196, 197, 198, 199, 200, 201, 202, 203, 204, 205, 206, 207, 208, 209, 210, 211, 212, 213, 214, 215, 216, 217, 218, 219, 220, 221, 222, 223, 224, 225, 226, 227, 228, 229, 230, 231, 232, 235, 236, 237, 238, 239, 240, 241, 242, 243, 244, 245, 246, 247, 248, 249, 250, 251, 252, 253, 254, 255, 256, 257, 258, 21, 259, 260, 261, 262, 263, 264, 265, 266, 267, 268, 269, 333, 334, 335, 336, 337, 338, 339, 360, 361, 362, 363, 364, 365, 366, 26, 286, 287, 288, 289, 290, 291, 292, 293, 28, 294, 295, 296, 297, 298, 299, 300, 301, 367, 368, 369, 370, 371, 372, 373, 280, 374, 375, 376, 377, 378, 379, 380, 13, 14, 381, 382, 383, 384, 385, 386, 387, 388, 389, 390, 391, 392, 393, 394, 395, 396, 397, 398, 399, 400, 401, 402, 34, 403, 404, 405, 406, 407, 408, 409, 410, 411, 412, 413, 414, 415, 416, 417, 418, 419, 420, 421, 422, 423, 424, 425, 426, 427, 428, 429, 430, 431, 461, 462, 463, 464, 465, 466, 467, 468, 469, 470, 471, 472, 473, 474, 456, 475, 3, 476, 477, 478, 479, 480, 481, 482, 22, 483, 484, 485, 440, 441, 442, 443, 444, 445, 446, 447, 439, 448, 449, 450, 451, 452, 453, 454, 455, 457, 458, 459, 460, 486, 487, 488, 489, 490, 491, 492, 493, 494, 270, 271, 272, 274, 275, 276, 277, 278, 279, 302, 303, 304, 305, 306, 317, 318, 319, 320, 321, 322, 323, 324, 325, 522, 523, 524, 525, 526, 527, 528, 432, 433, 434, 435, 436, 437, 438, 504, 505, 506, 507, 508, 509, 510, 532, 533, 534, 535, 536, 537, 538, 502, 539, 540, 541, 326, 327, 328, 329, 330, 331, 332, 553, 554, 555, 556, 557, 558, 559, 560, 561, 562, 566, 567, 568, 569, 570, 571, 572, 573, 574, 575, 576, 577, 578, 579, 580, 581, 563, 564, 565, 582, 583, 584, 585, 586, 587, 588, 589, 590] (by decide +kernel) (by decide +kernel)) (goodIn_sub (fun _ h => List.mem_append_left _ (List.mem_append_left _ (List.mem_append_right _ h))) (by decide +kernel))) (goodIn_sub (fun _ h => List.mem_append_right _ h) (by decide +kernel))) (goodIn_sub (fun _ h => List.mem_append_left _ (List.mem_append_right _ h)) (by decide +kernel))
set_option maxRecDepth 20000 in
theorem gL_law_L_refuses : GoodIn wsL_law (va_wsS RL 161 yL_refuses wsL_refuses) := goodIn_app (goodIn_of _ (by decide +kernel)) ggL_law_L_refuses
theorem dL_law_0 : decode cL_law 0 = .ok (.new 10, 3) := by decide +kernel
theorem dL_law_3 : decode cL_law 3 = .ok (.dup, 1) := by decide +kernel
theorem dL_law_4 : decode cL_law 4 = .ok (.invokespecial 138, 3) := by decide +kernel
theorem dL_law_7 : decode cL_law 7 = .ok (.astore_n 1, 1) := by decide +kernel
theorem dL_law_8 : decode cL_law 8 = .ok (.iconst 1, 1) := by decide +kernel
theorem dL_law_9 : decode cL_law 9 = .ok (.istore_n 2, 1) := by decide +kernel
theorem dL_law_10 : decode cL_law 10 = .ok (.iconst 0, 1) := by decide +kernel
theorem dL_law_11 : decode cL_law 11 = .ok (.istore_n 3, 1) := by decide +kernel
theorem dL_law_12 : decode cL_law 12 = .ok (.iconst 0, 1) := by decide +kernel
theorem dL_law_13 : decode cL_law 13 = .ok (.istore 4, 2) := by decide +kernel
theorem dL_law_15 : decode cL_law 15 = .ok (.iconst 0, 1) := by decide +kernel
theorem dL_law_16 : decode cL_law 16 = .ok (.istore 5, 2) := by decide +kernel
theorem dL_law_18 : decode cL_law 18 = .ok (.bipush 10, 2) := by decide +kernel
theorem dL_law_20 : decode cL_law 20 = .ok (.newarray .int, 2) := by decide +kernel
theorem dL_law_22 : decode cL_law 22 = .ok (.astore 6, 2) := by decide +kernel
theorem dL_law_24 : decode cL_law 24 = .ok (.iconst 0, 1) := by decide +kernel
theorem dL_law_25 : decode cL_law 25 = .ok (.istore 7, 2) := by decide +kernel
theorem dL_law_27 : decode cL_law 27 = .ok (.iload 7, 2) := by decide +kernel
theorem dL_law_29 : decode cL_law 29 = .ok (.bipush 40, 2) := by decide +kernel
theorem dL_law_31 : decode cL_law 31 = .ok (.if_icmp .ge 1020, 3) := by decide +kernel
theorem dL_law_34 : decode cL_law 34 = .ok (.iload_n 2, 1) := by decide +kernel
theorem dL_law_35 : decode cL_law 35 = .ok (.ifCond .eq 1016, 3) := by decide +kernel
theorem dL_law_38 : decode cL_law 38 = .ok (.aload_n 0, 1) := by decide +kernel
theorem dL_law_39 : decode cL_law 39 = .ok (.iconst 2, 1) := by decide +kernel
theorem dL_law_40 : decode cL_law 40 = .ok (.iload 7, 2) := by decide +kernel
theorem dL_law_42 : decode cL_law 42 = .ok (.imul, 1) := by decide +kernel
theorem dL_law_43 : decode cL_law 43 = .ok (.invokestatic 139, 3) := by decide +kernel
theorem dL_law_46 : decode cL_law 46 = .ok (.istore 8, 2) := by decide +kernel
theorem dL_law_48 : decode cL_law 48 = .ok (.aload_n 0, 1) := by decide +kernel
theorem dL_law_49 : decode cL_law 49 = .ok (.iconst 2, 1) := by decide +kernel
theorem dL_law_50 : decode cL_law 50 = .ok (.iload 7, 2) := by decide +kernel
theorem dL_law_52 : decode cL_law 52 = .ok (.imul, 1) := by decide +kernel
theorem dL_law_53 : decode cL_law 53 = .ok (.iconst 1, 1) := by decide +kernel
theorem dL_law_54 : decode cL_law 54 = .ok (.iadd, 1) := by decide +kernel
theorem dL_law_55 : decode cL_law 55 = .ok (.invokestatic 139, 3) := by decide +kernel
theorem dL_law_58 : decode cL_law 58 = .ok (.istore 9, 2) := by decide +kernel
theorem dL_law_60 : decode cL_law 60 = .ok (.iload 8, 2) := by decide +kernel
theorem dL_law_62 : decode cL_law 62 = .ok (.bipush 12, 2) := by decide +kernel
theorem dL_law_64 : decode cL_law 64 = .ok (.irem, 1) := by decide +kernel
theorem dL_law_65 : decode cL_law 65 = .ok (.istore 10, 2) := by decide +kernel
theorem dL_law_67 : decode cL_law 67 = .ok (.iload 8, 2) := by decide +kernel
theorem dL_law_69 : decode cL_law 69 = .ok (.bipush 16, 2) := by decide +kernel
theorem dL_law_71 : decode cL_law 71 = .ok (.idiv, 1) := by decide +kernel
theorem dL_law_72 : decode cL_law 72 = .ok (.bipush 25, 2) := by decide +kernel
theorem dL_law_74 : decode cL_law 74 = .ok (.irem, 1) := by decide +kernel
theorem dL_law_75 : decode cL_law 75 = .ok (.istore 11, 2) := by decide +kernel
theorem dL_law_77 : decode cL_law 77 = .ok (.iload 10, 2) := by decide +kernel
theorem dL_law_79 : decode cL_law 79 = .ok (.iconst 4, 1) := by decide +kernel
theorem dL_law_80 : decode cL_law 80 = .ok (.if_icmp .ge 62, 3) := by decide +kernel
theorem dL_law_83 : decode cL_law 83 = .ok (.aload_n 1, 1) := by decide +kernel
theorem dL_law_84 : decode cL_law 84 = .ok (.invokevirtual 112, 3) := by decide +kernel
theorem dL_law_87 : decode cL_law 87 = .ok (.istore 12, 2) := by decide +kernel
theorem dL_law_89 : decode cL_law 89 = .ok (.iconst 1, 1) := by decide +kernel
theorem dL_law_90 : decode cL_law 90 = .ok (.iload 9, 2) := by decide +kernel
theorem dL_law_92 : decode cL_law 92 = .ok (.iconst 4, 1) := by decide +kernel
theorem dL_law_93 : decode cL_law 93 = .ok (.irem, 1) := by decide +kernel
theorem dL_law_94 : decode cL_law 94 = .ok (.iadd, 1) := by decide +kernel
theorem dL_law_95 : decode cL_law 95 = .ok (.istore 13, 2) := by decide +kernel
theorem dL_law_97 : decode cL_law 97 = .ok (.aload_n 1, 1) := by decide +kernel
theorem dL_law_98 : decode cL_law 98 = .ok (.iload 13, 2) := by decide +kernel
theorem dL_law_100 : decode cL_law 100 = .ok (.iload 9, 2) := by decide +kernel
theorem dL_law_102 : decode cL_law 102 = .ok (.bipush 8, 2) := by decide +kernel
theorem dL_law_104 : decode cL_law 104 = .ok (.idiv, 1) := by decide +kernel
theorem dL_law_105 : decode cL_law 105 = .ok (.bipush 81, 2) := by decide +kernel
theorem dL_law_107 : decode cL_law 107 = .ok (.irem, 1) := by decide +kernel
theorem dL_law_108 : decode cL_law 108 = .ok (.bipush 50, 2) := by decide +kernel
theorem dL_law_110 : decode cL_law 110 = .ok (.isub, 1) := by decide +kernel
theorem dL_law_111 : decode cL_law 111 = .ok (.iload 9, 2) := by decide +kernel
theorem dL_law_113 : decode cL_law 113 = .ok (.sipush 1024, 3) := by decide +kernel
theorem dL_law_116 : decode cL_law 116 = .ok (.idiv, 1) := by decide +kernel
theorem dL_law_117 : decode cL_law 117 = .ok (.bipush 10, 2) := by decide +kernel
theorem dL_law_119 : decode cL_law 119 = .ok (.irem, 1) := by decide +kernel
theorem dL_law_120 : decode cL_law 120 = .ok (.invokestatic 123, 3) := by decide +kernel
theorem dL_law_123 : decode cL_law 123 = .ok (.iload 12, 2) := by decide +kernel
theorem dL_law_125 : decode cL_law 125 = .ok (.iload 13, 2) := by decide +kernel
theorem dL_law_127 : decode cL_law 127 = .ok (.iadd, 1) := by decide +kernel
theorem dL_law_128 : decode cL_law 128 = .ok (.i2l, 1) := by decide +kernel
theorem dL_law_129 : decode cL_law 129 = .ok (.lcmp, 1) := by decide +kernel
theorem dL_law_130 : decode cL_law 130 = .ok (.ifCond .ne 7, 3) := by decide +kernel
theorem dL_law_133 : decode cL_law 133 = .ok (.iconst 1, 1) := by decide +kernel
theorem dL_law_134 : decode cL_law 134 = .ok (.goto 4, 3) := by decide +kernel
theorem dL_law_137 : decode cL_law 137 = .ok (.iconst 0, 1) := by decide +kernel
theorem dL_law_138 : decode cL_law 138 = .ok (.istore_n 2, 1) := by decide +kernel
theorem dL_law_139 : decode cL_law 139 = .ok (.goto 704, 3) := by decide +kernel
theorem dL_law_142 : decode cL_law 142 = .ok (.iload 10, 2) := by decide +kernel
theorem dL_law_144 : decode cL_law 144 = .ok (.bipush 7, 2) := by decide +kernel
theorem dL_law_146 : decode cL_law 146 = .ok (.if_icmp .ge 111, 3) := by decide +kernel
theorem dL_law_149 : decode cL_law 149 = .ok (.iload 9, 2) := by decide +kernel
theorem dL_law_151 : decode cL_law 151 = .ok (.sipush 128, 3) := by decide +kernel
theorem dL_law_154 : decode cL_law 154 = .ok (.idiv, 1) := by decide +kernel
theorem dL_law_155 : decode cL_law 155 = .ok (.ldc 143, 2) := by decide +kernel
theorem dL_law_157 : decode cL_law 157 = .ok (.irem, 1) := by decide +kernel
theorem dL_law_158 : decode cL_law 158 = .ok (.sipush 5000, 3) := by decide +kernel
theorem dL_law_161 : decode cL_law 161 = .ok (.isub, 1) := by decide +kernel
theorem dL_law_162 : decode cL_law 162 = .ok (.istore 12, 2) := by decide +kernel
theorem dL_law_164 : decode cL_law 164 = .ok (.iload 9, 2) := by decide +kernel
theorem dL_law_166 : decode cL_law 166 = .ok (.iconst 5, 1) := by decide +kernel
theorem dL_law_167 : decode cL_law 167 = .ok (.irem, 1) := by decide +kernel
theorem dL_law_168 : decode cL_law 168 = .ok (.istore 13, 2) := by decide +kernel
theorem dL_law_170 : decode cL_law 170 = .ok (.aload_n 1, 1) := by decide +kernel
theorem dL_law_171 : decode cL_law 171 = .ok (.iload 11, 2) := by decide +kernel
theorem dL_law_173 : decode cL_law 173 = .ok (.iconst 0, 1) := by decide +kernel
theorem dL_law_174 : decode cL_law 174 = .ok (.invokestatic 81, 3) := by decide +kernel
theorem dL_law_177 : decode cL_law 177 = .ok (.lstore 14, 2) := by decide +kernel
theorem dL_law_179 : decode cL_law 179 = .ok (.aload_n 1, 1) := by decide +kernel
theorem dL_law_180 : decode cL_law 180 = .ok (.iload 11, 2) := by decide +kernel
theorem dL_law_182 : decode cL_law 182 = .ok (.iload 13, 2) := by decide +kernel
theorem dL_law_184 : decode cL_law 184 = .ok (.iload 9, 2) := by decide +kernel
theorem dL_law_186 : decode cL_law 186 = .ok (.bipush 8, 2) := by decide +kernel
theorem dL_law_188 : decode cL_law 188 = .ok (.idiv, 1) := by decide +kernel
theorem dL_law_189 : decode cL_law 189 = .ok (.bipush 10, 2) := by decide +kernel
theorem dL_law_191 : decode cL_law 191 = .ok (.irem, 1) := by decide +kernel
theorem dL_law_192 : decode cL_law 192 = .ok (.iload 9, 2) := by decide +kernel
theorem dL_law_194 : decode cL_law 194 = .ok (.bipush 16, 2) := by decide +kernel
theorem dL_law_196 : decode cL_law 196 = .ok (.idiv, 1) := by decide +kernel
theorem dL_law_197 : decode cL_law 197 = .ok (.bipush 10, 2) := by decide +kernel
theorem dL_law_199 : decode cL_law 199 = .ok (.irem, 1) := by decide +kernel
theorem dL_law_200 : decode cL_law 200 = .ok (.iload 12, 2) := by decide +kernel
theorem dL_law_202 : decode cL_law 202 = .ok (.iload 9, 2) := by decide +kernel
theorem dL_law_204 : decode cL_law 204 = .ok (.bipush 64, 2) := by decide +kernel
theorem dL_law_206 : decode cL_law 206 = .ok (.idiv, 1) := by decide +kernel
theorem dL_law_207 : decode cL_law 207 = .ok (.sipush 1001, 3) := by decide +kernel
theorem dL_law_210 : decode cL_law 210 = .ok (.irem, 1) := by decide +kernel
theorem dL_law_211 : decode cL_law 211 = .ok (.invokestatic 118, 3) := by decide +kernel
theorem dL_law_214 : decode cL_law 214 = .ok (.lconst 0, 1) := by decide +kernel
theorem dL_law_215 : decode cL_law 215 = .ok (.lcmp, 1) := by decide +kernel
theorem dL_law_216 : decode cL_law 216 = .ok (.ifCond .ne 36, 3) := by decide +kernel
theorem dL_law_219 : decode cL_law 219 = .ok (.aload_n 1, 1) := by decide +kernel
theorem dL_law_220 : decode cL_law 220 = .ok (.iload 11, 2) := by decide +kernel
theorem dL_law_222 : decode cL_law 222 = .ok (.iload 13, 2) := by decide +kernel
theorem dL_law_224 : decode cL_law 224 = .ok (.iconst 1, 1) := by decide +kernel
theorem dL_law_225 : decode cL_law 225 = .ok (.invokestatic 88, 3) := by decide +kernel
theorem dL_law_228 : decode cL_law 228 = .ok (.iload 12, 2) := by decide +kernel
theorem dL_law_230 : decode cL_law 230 = .ok (.i2l, 1) := by decide +kernel
theorem dL_law_231 : decode cL_law 231 = .ok (.lcmp, 1) := by decide +kernel
theorem dL_law_232 : decode cL_law 232 = .ok (.ifCond .ne 20, 3) := by decide +kernel
theorem dL_law_235 : decode cL_law 235 = .ok (.aload_n 1, 1) := by decide +kernel
theorem dL_law_236 : decode cL_law 236 = .ok (.iload 11, 2) := by decide +kernel
theorem dL_law_238 : decode cL_law 238 = .ok (.iconst 0, 1) := by decide +kernel
theorem dL_law_239 : decode cL_law 239 = .ok (.invokestatic 81, 3) := by decide +kernel
theorem dL_law_242 : decode cL_law 242 = .ok (.lload 14, 2) := by decide +kernel
theorem dL_law_244 : decode cL_law 244 = .ok (.lcmp, 1) := by decide +kernel
theorem dL_law_245 : decode cL_law 245 = .ok (.ifCond .ne 7, 3) := by decide +kernel
theorem dL_law_248 : decode cL_law 248 = .ok (.iconst 1, 1) := by decide +kernel
theorem dL_law_249 : decode cL_law 249 = .ok (.goto 4, 3) := by decide +kernel
theorem dL_law_252 : decode cL_law 252 = .ok (.iconst 0, 1) := by decide +kernel
theorem dL_law_253 : decode cL_law 253 = .ok (.istore_n 2, 1) := by decide +kernel
theorem dL_law_254 : decode cL_law 254 = .ok (.goto 589, 3) := by decide +kernel
theorem dL_law_257 : decode cL_law 257 = .ok (.iload 10, 2) := by decide +kernel
theorem dL_law_259 : decode cL_law 259 = .ok (.bipush 7, 2) := by decide +kernel
theorem dL_law_261 : decode cL_law 261 = .ok (.if_icmp .ne 179, 3) := by decide +kernel
theorem dL_law_264 : decode cL_law 264 = .ok (.aload_n 1, 1) := by decide +kernel
theorem dL_law_265 : decode cL_law 265 = .ok (.iload 11, 2) := by decide +kernel
theorem dL_law_267 : decode cL_law 267 = .ok (.iconst 0, 1) := by decide +kernel
theorem dL_law_268 : decode cL_law 268 = .ok (.iconst 4, 1) := by decide +kernel
theorem dL_law_269 : decode cL_law 269 = .ok (.invokestatic 88, 3) := by decide +kernel
theorem dL_law_272 : decode cL_law 272 = .ok (.lstore 12, 2) := by decide +kernel
theorem dL_law_274 : decode cL_law 274 = .ok (.aload_n 1, 1) := by decide +kernel
theorem dL_law_275 : decode cL_law 275 = .ok (.iload 11, 2) := by decide +kernel
theorem dL_law_277 : decode cL_law 277 = .ok (.iconst 1, 1) := by decide +kernel
theorem dL_law_278 : decode cL_law 278 = .ok (.invokestatic 81, 3) := by decide +kernel
theorem dL_law_281 : decode cL_law 281 = .ok (.ldc2_w 93, 3) := by decide +kernel
theorem dL_law_284 : decode cL_law 284 = .ok (.lcmp, 1) := by decide +kernel
theorem dL_law_285 : decode cL_law 285 = .ok (.ifCond .ge 19, 3) := by decide +kernel
theorem dL_law_288 : decode cL_law 288 = .ok (.aload_n 1, 1) := by decide +kernel
theorem dL_law_289 : decode cL_law 289 = .ok (.iload 11, 2) := by decide +kernel
theorem dL_law_291 : decode cL_law 291 = .ok (.iconst 2, 1) := by decide +kernel
theorem dL_law_292 : decode cL_law 292 = .ok (.invokestatic 81, 3) := by decide +kernel
theorem dL_law_295 : decode cL_law 295 = .ok (.lconst 0, 1) := by decide +kernel
theorem dL_law_296 : decode cL_law 296 = .ok (.lcmp, 1) := by decide +kernel
theorem dL_law_297 : decode cL_law 297 = .ok (.ifCond .ne 7, 3) := by decide +kernel
theorem dL_law_300 : decode cL_law 300 = .ok (.iconst 1, 1) := by decide +kernel
theorem dL_law_301 : decode cL_law 301 = .ok (.goto 4, 3) := by decide +kernel
theorem dL_law_304 : decode cL_law 304 = .ok (.iconst 0, 1) := by decide +kernel
theorem dL_law_305 : decode cL_law 305 = .ok (.istore 14, 2) := by decide +kernel
theorem dL_law_307 : decode cL_law 307 = .ok (.aload_n 1, 1) := by decide +kernel
theorem dL_law_308 : decode cL_law 308 = .ok (.iconst 0, 1) := by decide +kernel
theorem dL_law_309 : decode cL_law 309 = .ok (.invokestatic 99, 3) := by decide +kernel
theorem dL_law_312 : decode cL_law 312 = .ok (.lstore 15, 2) := by decide +kernel
theorem dL_law_314 : decode cL_law 314 = .ok (.aload_n 1, 1) := by decide +kernel
theorem dL_law_315 : decode cL_law 315 = .ok (.iload 11, 2) := by decide +kernel
theorem dL_law_317 : decode cL_law 317 = .ok (.invokestatic 125, 3) := by decide +kernel
theorem dL_law_320 : decode cL_law 320 = .ok (.lstore 17, 2) := by decide +kernel
theorem dL_law_322 : decode cL_law 322 = .ok (.iload 14, 2) := by decide +kernel
theorem dL_law_324 : decode cL_law 324 = .ok (.ifCond .eq 66, 3) := by decide +kernel
theorem dL_law_327 : decode cL_law 327 = .ok (.lload 17, 2) := by decide +kernel
theorem dL_law_329 : decode cL_law 329 = .ok (.lload 12, 2) := by decide +kernel
theorem dL_law_331 : decode cL_law 331 = .ok (.ldc2_w 144, 3) := by decide +kernel
theorem dL_law_334 : decode cL_law 334 = .ok (.ldiv, 1) := by decide +kernel
theorem dL_law_335 : decode cL_law 335 = .ok (.lcmp, 1) := by decide +kernel
theorem dL_law_336 : decode cL_law 336 = .ok (.ifCond .ne 50, 3) := by decide +kernel
theorem dL_law_339 : decode cL_law 339 = .ok (.aload_n 1, 1) := by decide +kernel
theorem dL_law_340 : decode cL_law 340 = .ok (.iload 11, 2) := by decide +kernel
theorem dL_law_342 : decode cL_law 342 = .ok (.iconst 0, 1) := by decide +kernel
theorem dL_law_343 : decode cL_law 343 = .ok (.iconst 4, 1) := by decide +kernel
theorem dL_law_344 : decode cL_law 344 = .ok (.invokestatic 88, 3) := by decide +kernel
theorem dL_law_347 : decode cL_law 347 = .ok (.lload 12, 2) := by decide +kernel
theorem dL_law_349 : decode cL_law 349 = .ok (.lload 17, 2) := by decide +kernel
theorem dL_law_351 : decode cL_law 351 = .ok (.lsub, 1) := by decide +kernel
theorem dL_law_352 : decode cL_law 352 = .ok (.lcmp, 1) := by decide +kernel
theorem dL_law_353 : decode cL_law 353 = .ok (.ifCond .ne 33, 3) := by decide +kernel
theorem dL_law_356 : decode cL_law 356 = .ok (.aload_n 1, 1) := by decide +kernel
theorem dL_law_357 : decode cL_law 357 = .ok (.iconst 0, 1) := by decide +kernel
theorem dL_law_358 : decode cL_law 358 = .ok (.invokestatic 99, 3) := by decide +kernel
theorem dL_law_361 : decode cL_law 361 = .ok (.lload 15, 2) := by decide +kernel
theorem dL_law_363 : decode cL_law 363 = .ok (.lload 17, 2) := by decide +kernel
theorem dL_law_365 : decode cL_law 365 = .ok (.ladd, 1) := by decide +kernel
theorem dL_law_366 : decode cL_law 366 = .ok (.lcmp, 1) := by decide +kernel
theorem dL_law_367 : decode cL_law 367 = .ok (.ifCond .ne 19, 3) := by decide +kernel
theorem dL_law_370 : decode cL_law 370 = .ok (.aload_n 1, 1) := by decide +kernel
theorem dL_law_371 : decode cL_law 371 = .ok (.iload 11, 2) := by decide +kernel
theorem dL_law_373 : decode cL_law 373 = .ok (.iconst 3, 1) := by decide +kernel
theorem dL_law_374 : decode cL_law 374 = .ok (.invokestatic 81, 3) := by decide +kernel
theorem dL_law_377 : decode cL_law 377 = .ok (.lconst 0, 1) := by decide +kernel
theorem dL_law_378 : decode cL_law 378 = .ok (.lcmp, 1) := by decide +kernel
theorem dL_law_379 : decode cL_law 379 = .ok (.ifCond .ne 7, 3) := by decide +kernel
theorem dL_law_382 : decode cL_law 382 = .ok (.iconst 1, 1) := by decide +kernel
theorem dL_law_383 : decode cL_law 383 = .ok (.goto 21, 3) := by decide +kernel
theorem dL_law_386 : decode cL_law 386 = .ok (.iconst 0, 1) := by decide +kernel
theorem dL_law_387 : decode cL_law 387 = .ok (.goto 17, 3) := by decide +kernel
theorem dL_law_390 : decode cL_law 390 = .ok (.lload 17, 2) := by decide +kernel
theorem dL_law_392 : decode cL_law 392 = .ok (.ldc2_w 33, 3) := by decide +kernel
