theorem dL_cellHolds_268 : decode cL_cellHolds 268 = .ok (.ifCond .eq 130, 3) := by decide +kernel
theorem dL_cellHolds_271 : decode cL_cellHolds 271 = .ok (.aload_n 0, 1) := by decide +kernel
theorem dL_cellHolds_272 : decode cL_cellHolds 272 = .ok (.iload_n 1, 1) := by decide +kernel
theorem dL_cellHolds_273 : decode cL_cellHolds 273 = .ok (.iload 7, 2) := by decide +kernel
theorem dL_cellHolds_275 : decode cL_cellHolds 275 = .ok (.invokestatic 106, 3) := by decide +kernel
theorem dL_cellHolds_278 : decode cL_cellHolds 278 = .ok (.lstore 8, 2) := by decide +kernel
theorem dL_cellHolds_280 : decode cL_cellHolds 280 = .ok (.iload 6, 2) := by decide +kernel
theorem dL_cellHolds_282 : decode cL_cellHolds 282 = .ok (.lload 8, 2) := by decide +kernel
theorem dL_cellHolds_284 : decode cL_cellHolds 284 = .ok (.lconst 0, 1) := by decide +kernel
theorem dL_cellHolds_285 : decode cL_cellHolds 285 = .ok (.lcmp, 1) := by decide +kernel
theorem dL_cellHolds_286 : decode cL_cellHolds 286 = .ok (.ifCond .lt 7, 3) := by decide +kernel
theorem dL_cellHolds_289 : decode cL_cellHolds 289 = .ok (.iconst 1, 1) := by decide +kernel
theorem dL_cellHolds_290 : decode cL_cellHolds 290 = .ok (.goto 4, 3) := by decide +kernel
theorem dL_cellHolds_293 : decode cL_cellHolds 293 = .ok (.iconst 0, 1) := by decide +kernel
theorem dL_cellHolds_294 : decode cL_cellHolds 294 = .ok (.iadd, 1) := by decide +kernel
theorem dL_cellHolds_295 : decode cL_cellHolds 295 = .ok (.istore 6, 2) := by decide +kernel
theorem dL_cellHolds_297 : decode cL_cellHolds 297 = .ok (.lload 8, 2) := by decide +kernel
theorem dL_cellHolds_299 : decode cL_cellHolds 299 = .ok (.lconst 0, 1) := by decide +kernel
theorem dL_cellHolds_300 : decode cL_cellHolds 300 = .ok (.lcmp, 1) := by decide +kernel
theorem dL_cellHolds_301 : decode cL_cellHolds 301 = .ok (.ifCond .ge 17, 3) := by decide +kernel
theorem dL_cellHolds_304 : decode cL_cellHolds 304 = .ok (.iload 7, 2) := by decide +kernel
theorem dL_cellHolds_306 : decode cL_cellHolds 306 = .ok (.iconst 1, 1) := by decide +kernel
theorem dL_cellHolds_307 : decode cL_cellHolds 307 = .ok (.if_icmp .le 7, 3) := by decide +kernel
theorem dL_cellHolds_310 : decode cL_cellHolds 310 = .ok (.iconst 1, 1) := by decide +kernel
theorem dL_cellHolds_311 : decode cL_cellHolds 311 = .ok (.goto 64, 3) := by decide +kernel
theorem dL_cellHolds_314 : decode cL_cellHolds 314 = .ok (.iconst 0, 1) := by decide +kernel
theorem dL_cellHolds_315 : decode cL_cellHolds 315 = .ok (.goto 60, 3) := by decide +kernel
theorem dL_cellHolds_318 : decode cL_cellHolds 318 = .ok (.lload 8, 2) := by decide +kernel
theorem dL_cellHolds_320 : decode cL_cellHolds 320 = .ok (.lload 4, 2) := by decide +kernel
theorem dL_cellHolds_322 : decode cL_cellHolds 322 = .ok (.lcmp, 1) := by decide +kernel
theorem dL_cellHolds_323 : decode cL_cellHolds 323 = .ok (.ifCond .le 51, 3) := by decide +kernel
theorem dL_cellHolds_326 : decode cL_cellHolds 326 = .ok (.aload_n 0, 1) := by decide +kernel
theorem dL_cellHolds_327 : decode cL_cellHolds 327 = .ok (.iload_n 1, 1) := by decide +kernel
theorem dL_cellHolds_328 : decode cL_cellHolds 328 = .ok (.iconst 1, 1) := by decide +kernel
theorem dL_cellHolds_329 : decode cL_cellHolds 329 = .ok (.invokestatic 81, 3) := by decide +kernel
theorem dL_cellHolds_332 : decode cL_cellHolds 332 = .ok (.lconst 0, 1) := by decide +kernel
theorem dL_cellHolds_333 : decode cL_cellHolds 333 = .ok (.lcmp, 1) := by decide +kernel
theorem dL_cellHolds_334 : decode cL_cellHolds 334 = .ok (.ifCond .eq 36, 3) := by decide +kernel
theorem dL_cellHolds_337 : decode cL_cellHolds 337 = .ok (.aload_n 0, 1) := by decide +kernel
theorem dL_cellHolds_338 : decode cL_cellHolds 338 = .ok (.lload 8, 2) := by decide +kernel
theorem dL_cellHolds_340 : decode cL_cellHolds 340 = .ok (.l2i, 1) := by decide +kernel
theorem dL_cellHolds_341 : decode cL_cellHolds 341 = .ok (.iconst 1, 1) := by decide +kernel
theorem dL_cellHolds_342 : decode cL_cellHolds 342 = .ok (.invokestatic 81, 3) := by decide +kernel
theorem dL_cellHolds_345 : decode cL_cellHolds 345 = .ok (.lconst 0, 1) := by decide +kernel
theorem dL_cellHolds_346 : decode cL_cellHolds 346 = .ok (.lcmp, 1) := by decide +kernel
theorem dL_cellHolds_347 : decode cL_cellHolds 347 = .ok (.ifCond .eq 23, 3) := by decide +kernel
theorem dL_cellHolds_350 : decode cL_cellHolds 350 = .ok (.aload_n 0, 1) := by decide +kernel
theorem dL_cellHolds_351 : decode cL_cellHolds 351 = .ok (.iload_n 1, 1) := by decide +kernel
theorem dL_cellHolds_352 : decode cL_cellHolds 352 = .ok (.bipush 6, 2) := by decide +kernel
theorem dL_cellHolds_354 : decode cL_cellHolds 354 = .ok (.invokestatic 81, 3) := by decide +kernel
theorem dL_cellHolds_357 : decode cL_cellHolds 357 = .ok (.aload_n 0, 1) := by decide +kernel
theorem dL_cellHolds_358 : decode cL_cellHolds 358 = .ok (.lload 8, 2) := by decide +kernel
theorem dL_cellHolds_360 : decode cL_cellHolds 360 = .ok (.l2i, 1) := by decide +kernel
theorem dL_cellHolds_361 : decode cL_cellHolds 361 = .ok (.bipush 6, 2) := by decide +kernel
theorem dL_cellHolds_363 : decode cL_cellHolds 363 = .ok (.invokestatic 81, 3) := by decide +kernel
theorem dL_cellHolds_366 : decode cL_cellHolds 366 = .ok (.lcmp, 1) := by decide +kernel
theorem dL_cellHolds_367 : decode cL_cellHolds 367 = .ok (.ifCond .ne 7, 3) := by decide +kernel
theorem dL_cellHolds_370 : decode cL_cellHolds 370 = .ok (.iconst 1, 1) := by decide +kernel
theorem dL_cellHolds_371 : decode cL_cellHolds 371 = .ok (.goto 4, 3) := by decide +kernel
theorem dL_cellHolds_374 : decode cL_cellHolds 374 = .ok (.iconst 0, 1) := by decide +kernel
theorem dL_cellHolds_375 : decode cL_cellHolds 375 = .ok (.istore_n 2, 1) := by decide +kernel
theorem dL_cellHolds_376 : decode cL_cellHolds 376 = .ok (.lload 8, 2) := by decide +kernel
theorem dL_cellHolds_378 : decode cL_cellHolds 378 = .ok (.lconst 0, 1) := by decide +kernel
theorem dL_cellHolds_379 : decode cL_cellHolds 379 = .ok (.lcmp, 1) := by decide +kernel
theorem dL_cellHolds_380 : decode cL_cellHolds 380 = .ok (.ifCond .ge 8, 3) := by decide +kernel
theorem dL_cellHolds_383 : decode cL_cellHolds 383 = .ok (.lload 4, 2) := by decide +kernel
theorem dL_cellHolds_385 : decode cL_cellHolds 385 = .ok (.goto 5, 3) := by decide +kernel
theorem dL_cellHolds_388 : decode cL_cellHolds 388 = .ok (.lload 8, 2) := by decide +kernel
theorem dL_cellHolds_390 : decode cL_cellHolds 390 = .ok (.lstore 4, 2) := by decide +kernel
theorem dL_cellHolds_392 : decode cL_cellHolds 392 = .ok (.iinc 7 1, 3) := by decide +kernel
theorem dL_cellHolds_395 : decode cL_cellHolds 395 = .ok (.goto (-134), 3) := by decide +kernel
theorem dL_cellHolds_398 : decode cL_cellHolds 398 = .ok (.iload_n 2, 1) := by decide +kernel
theorem dL_cellHolds_399 : decode cL_cellHolds 399 = .ok (.ifCond .eq 26, 3) := by decide +kernel
theorem dL_cellHolds_402 : decode cL_cellHolds 402 = .ok (.iload 6, 2) := by decide +kernel
theorem dL_cellHolds_404 : decode cL_cellHolds 404 = .ok (.iconst 2, 1) := by decide +kernel
theorem dL_cellHolds_405 : decode cL_cellHolds 405 = .ok (.if_icmp .lt 20, 3) := by decide +kernel
theorem dL_cellHolds_408 : decode cL_cellHolds 408 = .ok (.aload_n 0, 1) := by decide +kernel
theorem dL_cellHolds_409 : decode cL_cellHolds 409 = .ok (.iload_n 1, 1) := by decide +kernel
theorem dL_cellHolds_410 : decode cL_cellHolds 410 = .ok (.iconst 4, 1) := by decide +kernel
theorem dL_cellHolds_411 : decode cL_cellHolds 411 = .ok (.invokestatic 106, 3) := by decide +kernel
theorem dL_cellHolds_414 : decode cL_cellHolds 414 = .ok (.ldc2_w 104, 3) := by decide +kernel
theorem dL_cellHolds_417 : decode cL_cellHolds 417 = .ok (.lcmp, 1) := by decide +kernel
theorem dL_cellHolds_418 : decode cL_cellHolds 418 = .ok (.ifCond .ne 7, 3) := by decide +kernel
theorem dL_cellHolds_421 : decode cL_cellHolds 421 = .ok (.iconst 1, 1) := by decide +kernel
theorem dL_cellHolds_422 : decode cL_cellHolds 422 = .ok (.goto 4, 3) := by decide +kernel
theorem dL_cellHolds_425 : decode cL_cellHolds 425 = .ok (.iconst 0, 1) := by decide +kernel
theorem dL_cellHolds_426 : decode cL_cellHolds 426 = .ok (.ireturn, 1) := by decide +kernel
set_option maxRecDepth 20000 in
theorem ggL_claimsHold_L_houseOf : GoodIn wsL_claimsHold wsL_houseOf := goodIn_ca (goodIn_ca (goodIn_r _ [6, 7, 8, 1, 9, 10, 11, 12, 13, 14, 15, 16, 17, 18, 19, 20, 21, 22, 23, 24, 25, 26, 27, 28, 29, 30, 31, 32, 33, 34, 35, 36, 37, 38, 39, 40, 41, 42, 43, 44, 45, 46, 47, 48, 49, 50, 51, 52, 53, 54, 55, 56, 57, 58, 59, 60, 61, 62, 63, 64, 65, 66, 67, 68, 69, 70, 71, 72, 73, 74, 75, 76, 77, 78, 79, 80, 81, 82, 83, 84, 85, 158, 159, 160, 161, 162, 163, 164, 165, 166, 167, 168, 169, 170, 171, 172, 173, 174, 175, 176, 177, 178, 179, 180] (by decide +kernel) (by decide +kernel)) (goodIn_sub (fun _ h => List.mem_cons_of_mem _ (List.mem_append_left _ (List.mem_append_right _ h))) (by decide +kernel))) (goodIn_sub (fun _ h => List.mem_cons_of_mem _ (List.mem_append_right _ h)) (by decide +kernel))
set_option maxRecDepth 20000 in
theorem gL_claimsHold_L_houseOf : GoodIn wsL_claimsHold (va_wsS RL 108 yL_houseOf wsL_houseOf) := goodIn_app (goodIn_of _ (by decide +kernel)) ggL_claimsHold_L_houseOf
set_option maxRecDepth 20000 in
theorem ggL_claimsHold_L_claimOf : GoodIn wsL_claimsHold wsL_claimOf := goodIn_ca (goodIn_r _ [88, 7, 1, 89, 90, 91, 13, 92, 93, 94, 95, 22, 23, 24, 25, 26, 27, 28, 29, 30, 31, 32, 38, 39, 40, 41, 42, 43, 44, 45, 46, 47, 48, 49, 50, 51, 52, 53, 54, 158, 159, 160, 161, 162, 163, 164, 165, 166, 167, 181, 182, 183, 184, 173, 174, 175] (by decide +kernel) (by decide +kernel)) (goodIn_sub (fun _ h => List.mem_cons_of_mem _ (List.mem_append_left _ (List.mem_append_right _ h))) (by decide +kernel))
set_option maxRecDepth 20000 in
theorem gL_claimsHold_L_claimOf : GoodIn wsL_claimsHold (va_wsS RL 110 yL_claimOf wsL_claimOf) := goodIn_app (goodIn_of _ (by decide +kernel)) ggL_claimsHold_L_claimOf
set_option maxRecDepth 20000 in
theorem ggL_claimsHold_X5_month : GoodIn wsL_claimsHold wsX5_month := goodIn_r _ [99, 21, 158, 159, 160, 161, 162, 163, 164, 165, 166, 167] (by decide +kernel) (by decide +kernel)
set_option maxRecDepth 20000 in
theorem gL_claimsHold_X5_month : GoodIn wsL_claimsHold (wsV RL 112 RX5 yX5_month wsX5_month) := goodIn_app (goodIn_of _ (by decide +kernel)) ggL_claimsHold_X5_month
set_option maxRecDepth 20000 in
theorem ggL_claimsHold_L_cellOf : GoodIn wsL_claimsHold wsL_cellOf := goodIn_ca (goodIn_ca (goodIn_r _ [102, 7, 8, 1, 9, 103, 104, 105, 13, 106, 107, 108, 109, 110, 111, 112, 113, 28, 29, 30, 31, 32, 33, 34, 35, 36, 37, 114, 115, 116, 117, 118, 119, 120, 121, 122, 123, 124, 125, 126, 127, 128, 129, 130, 131, 132, 133, 134, 135, 136, 137, 138, 139, 140, 141, 142, 143, 144, 145, 146, 147, 158, 159, 160, 161, 162, 163, 164, 165, 166, 167, 185, 186, 187, 188, 189, 190, 191, 192, 193, 194, 195] (by decide +kernel) (by decide +kernel)) (goodIn_sub (fun _ h => List.mem_cons_of_mem _ (List.mem_append_left _ (List.mem_append_right _ h))) (by decide +kernel))) (goodIn_sub (fun _ h => List.mem_cons_of_mem _ (List.mem_append_right _ h)) (by decide +kernel))
set_option maxRecDepth 20000 in
theorem gL_claimsHold_L_cellOf : GoodIn wsL_claimsHold (va_wsS RL 81 yL_cellOf wsL_cellOf) := goodIn_app (goodIn_of _ (by decide +kernel)) ggL_claimsHold_L_cellOf
set_option maxRecDepth 20000 in
theorem ggL_claimsHold_L_claimAnew : GoodIn wsL_claimsHold wsL_claimAnew := goodIn_ca (goodIn_r _ [150, 7, 1, 151, 152, 153, 13, 154, 93, 94, 155, 156, 157, 22, 23, 24, 25, 26, 27, 28, 29, 30, 31, 32, 38, 39, 40, 41, 42, 43, 44, 45, 46, 47, 48, 49, 50, 51, 52, 53, 54, 55, 56, 57, 58, 59, 60, 61, 62, 63, 64, 65, 66, 20, 67, 68, 69, 70, 71, 72, 73, 17, 18, 74, 75, 76, 77, 78, 79, 80, 81, 82, 83, 84, 85, 158, 159, 160, 161, 162, 163, 164, 165, 166, 167, 181, 182, 183, 184, 173, 174, 175, 168, 169, 170, 171, 172, 176, 177, 178, 179, 180] (by decide +kernel) (by decide +kernel)) (goodIn_sub (fun _ h => List.mem_cons_of_mem _ (List.mem_append_left _ (List.mem_append_right _ h))) (by decide +kernel))
set_option maxRecDepth 20000 in
theorem gL_claimsHold_L_claimAnew : GoodIn wsL_claimsHold (va_wsS RL 116 yL_claimAnew wsL_claimAnew) := goodIn_app (goodIn_of _ (by decide +kernel)) ggL_claimsHold_L_claimAnew
theorem dL_claimsHold_0 : decode cL_claimsHold 0 = .ok (.aload_n 0, 1) := by decide +kernel
theorem dL_claimsHold_1 : decode cL_claimsHold 1 = .ok (.iload_n 1, 1) := by decide +kernel
theorem dL_claimsHold_2 : decode cL_claimsHold 2 = .ok (.iconst 0, 1) := by decide +kernel
theorem dL_claimsHold_3 : decode cL_claimsHold 3 = .ok (.invokestatic 108, 3) := by decide +kernel
theorem dL_claimsHold_6 : decode cL_claimsHold 6 = .ok (.ldc2_w 17, 3) := by decide +kernel
theorem dL_claimsHold_9 : decode cL_claimsHold 9 = .ok (.lcmp, 1) := by decide +kernel
theorem dL_claimsHold_10 : decode cL_claimsHold 10 = .ok (.ifCond .ne 19, 3) := by decide +kernel
theorem dL_claimsHold_13 : decode cL_claimsHold 13 = .ok (.aload_n 0, 1) := by decide +kernel
theorem dL_claimsHold_14 : decode cL_claimsHold 14 = .ok (.iload_n 2, 1) := by decide +kernel
theorem dL_claimsHold_15 : decode cL_claimsHold 15 = .ok (.invokestatic 110, 3) := by decide +kernel
theorem dL_claimsHold_18 : decode cL_claimsHold 18 = .ok (.ldc2_w 17, 3) := by decide +kernel
theorem dL_claimsHold_21 : decode cL_claimsHold 21 = .ok (.lcmp, 1) := by decide +kernel
theorem dL_claimsHold_22 : decode cL_claimsHold 22 = .ok (.ifCond .ne 7, 3) := by decide +kernel
theorem dL_claimsHold_25 : decode cL_claimsHold 25 = .ok (.iconst 1, 1) := by decide +kernel
theorem dL_claimsHold_26 : decode cL_claimsHold 26 = .ok (.goto 4, 3) := by decide +kernel
theorem dL_claimsHold_29 : decode cL_claimsHold 29 = .ok (.iconst 0, 1) := by decide +kernel
theorem dL_claimsHold_30 : decode cL_claimsHold 30 = .ok (.istore_n 3, 1) := by decide +kernel
theorem dL_claimsHold_31 : decode cL_claimsHold 31 = .ok (.iconst 0, 1) := by decide +kernel
theorem dL_claimsHold_32 : decode cL_claimsHold 32 = .ok (.istore 4, 2) := by decide +kernel
theorem dL_claimsHold_34 : decode cL_claimsHold 34 = .ok (.iload 4, 2) := by decide +kernel
theorem dL_claimsHold_36 : decode cL_claimsHold 36 = .ok (.iload_n 1, 1) := by decide +kernel
theorem dL_claimsHold_37 : decode cL_claimsHold 37 = .ok (.if_icmp .ge 107, 3) := by decide +kernel
theorem dL_claimsHold_40 : decode cL_claimsHold 40 = .ok (.iload_n 3, 1) := by decide +kernel
theorem dL_claimsHold_41 : decode cL_claimsHold 41 = .ok (.ifCond .eq 103, 3) := by decide +kernel
theorem dL_claimsHold_44 : decode cL_claimsHold 44 = .ok (.aload_n 0, 1) := by decide +kernel
theorem dL_claimsHold_45 : decode cL_claimsHold 45 = .ok (.iload 4, 2) := by decide +kernel
theorem dL_claimsHold_47 : decode cL_claimsHold 47 = .ok (.iconst 4, 1) := by decide +kernel
theorem dL_claimsHold_48 : decode cL_claimsHold 48 = .ok (.invokestatic 108, 3) := by decide +kernel
theorem dL_claimsHold_51 : decode cL_claimsHold 51 = .ok (.lstore 5, 2) := by decide +kernel
theorem dL_claimsHold_53 : decode cL_claimsHold 53 = .ok (.lload 5, 2) := by decide +kernel
theorem dL_claimsHold_55 : decode cL_claimsHold 55 = .ok (.lconst 0, 1) := by decide +kernel
theorem dL_claimsHold_56 : decode cL_claimsHold 56 = .ok (.lcmp, 1) := by decide +kernel
theorem dL_claimsHold_57 : decode cL_claimsHold 57 = .ok (.ifCond .lt 79, 3) := by decide +kernel
theorem dL_claimsHold_60 : decode cL_claimsHold 60 = .ok (.lload 5, 2) := by decide +kernel
theorem dL_claimsHold_62 : decode cL_claimsHold 62 = .ok (.ldc2_w 102, 3) := by decide +kernel
theorem dL_claimsHold_65 : decode cL_claimsHold 65 = .ok (.lrem, 1) := by decide +kernel
theorem dL_claimsHold_66 : decode cL_claimsHold 66 = .ok (.lconst 0, 1) := by decide +kernel
theorem dL_claimsHold_67 : decode cL_claimsHold 67 = .ok (.lcmp, 1) := by decide +kernel
theorem dL_claimsHold_68 : decode cL_claimsHold 68 = .ok (.ifCond .ne 68, 3) := by decide +kernel
theorem dL_claimsHold_71 : decode cL_claimsHold 71 = .ok (.lload 5, 2) := by decide +kernel
theorem dL_claimsHold_73 : decode cL_claimsHold 73 = .ok (.ldc2_w 102, 3) := by decide +kernel
theorem dL_claimsHold_76 : decode cL_claimsHold 76 = .ok (.aload_n 0, 1) := by decide +kernel
theorem dL_claimsHold_77 : decode cL_claimsHold 77 = .ok (.iload 4, 2) := by decide +kernel
theorem dL_claimsHold_79 : decode cL_claimsHold 79 = .ok (.iconst 2, 1) := by decide +kernel
theorem dL_claimsHold_80 : decode cL_claimsHold 80 = .ok (.invokestatic 108, 3) := by decide +kernel
theorem dL_claimsHold_83 : decode cL_claimsHold 83 = .ok (.lmul, 1) := by decide +kernel
theorem dL_claimsHold_84 : decode cL_claimsHold 84 = .ok (.lcmp, 1) := by decide +kernel
theorem dL_claimsHold_85 : decode cL_claimsHold 85 = .ok (.ifCond .gt 51, 3) := by decide +kernel
theorem dL_claimsHold_88 : decode cL_claimsHold 88 = .ok (.aload_n 0, 1) := by decide +kernel
theorem dL_claimsHold_89 : decode cL_claimsHold 89 = .ok (.iload 4, 2) := by decide +kernel
theorem dL_claimsHold_91 : decode cL_claimsHold 91 = .ok (.iconst 2, 1) := by decide +kernel
theorem dL_claimsHold_92 : decode cL_claimsHold 92 = .ok (.invokestatic 108, 3) := by decide +kernel
theorem dL_claimsHold_95 : decode cL_claimsHold 95 = .ok (.aload_n 0, 1) := by decide +kernel
theorem dL_claimsHold_96 : decode cL_claimsHold 96 = .ok (.invokevirtual 112, 3) := by decide +kernel
theorem dL_claimsHold_99 : decode cL_claimsHold 99 = .ok (.i2l, 1) := by decide +kernel
theorem dL_claimsHold_100 : decode cL_claimsHold 100 = .ok (.aload_n 0, 1) := by decide +kernel
theorem dL_claimsHold_101 : decode cL_claimsHold 101 = .ok (.iload 4, 2) := by decide +kernel
theorem dL_claimsHold_103 : decode cL_claimsHold 103 = .ok (.iconst 3, 1) := by decide +kernel
theorem dL_claimsHold_104 : decode cL_claimsHold 104 = .ok (.invokestatic 108, 3) := by decide +kernel
theorem dL_claimsHold_107 : decode cL_claimsHold 107 = .ok (.lsub, 1) := by decide +kernel
theorem dL_claimsHold_108 : decode cL_claimsHold 108 = .ok (.lcmp, 1) := by decide +kernel
theorem dL_claimsHold_109 : decode cL_claimsHold 109 = .ok (.ifCond .gt 27, 3) := by decide +kernel
theorem dL_claimsHold_112 : decode cL_claimsHold 112 = .ok (.aload_n 0, 1) := by decide +kernel
theorem dL_claimsHold_113 : decode cL_claimsHold 113 = .ok (.aload_n 0, 1) := by decide +kernel
theorem dL_claimsHold_114 : decode cL_claimsHold 114 = .ok (.iload 4, 2) := by decide +kernel
theorem dL_claimsHold_116 : decode cL_claimsHold 116 = .ok (.iconst 0, 1) := by decide +kernel
theorem dL_claimsHold_117 : decode cL_claimsHold 117 = .ok (.invokestatic 108, 3) := by decide +kernel
theorem dL_claimsHold_120 : decode cL_claimsHold 120 = .ok (.l2i, 1) := by decide +kernel
theorem dL_claimsHold_121 : decode cL_claimsHold 121 = .ok (.iconst 5, 1) := by decide +kernel
theorem dL_claimsHold_122 : decode cL_claimsHold 122 = .ok (.invokestatic 81, 3) := by decide +kernel
theorem dL_claimsHold_125 : decode cL_claimsHold 125 = .ok (.iload 4, 2) := by decide +kernel
theorem dL_claimsHold_127 : decode cL_claimsHold 127 = .ok (.i2l, 1) := by decide +kernel
theorem dL_claimsHold_128 : decode cL_claimsHold 128 = .ok (.lcmp, 1) := by decide +kernel
theorem dL_claimsHold_129 : decode cL_claimsHold 129 = .ok (.ifCond .ne 7, 3) := by decide +kernel
theorem dL_claimsHold_132 : decode cL_claimsHold 132 = .ok (.iconst 1, 1) := by decide +kernel
theorem dL_claimsHold_133 : decode cL_claimsHold 133 = .ok (.goto 4, 3) := by decide +kernel
theorem dL_claimsHold_136 : decode cL_claimsHold 136 = .ok (.iconst 0, 1) := by decide +kernel
theorem dL_claimsHold_137 : decode cL_claimsHold 137 = .ok (.istore_n 3, 1) := by decide +kernel
theorem dL_claimsHold_138 : decode cL_claimsHold 138 = .ok (.iinc 4 1, 3) := by decide +kernel
theorem dL_claimsHold_141 : decode cL_claimsHold 141 = .ok (.goto (-107), 3) := by decide +kernel
theorem dL_claimsHold_144 : decode cL_claimsHold 144 = .ok (.iconst 0, 1) := by decide +kernel
theorem dL_claimsHold_145 : decode cL_claimsHold 145 = .ok (.istore 4, 2) := by decide +kernel
theorem dL_claimsHold_147 : decode cL_claimsHold 147 = .ok (.iload 4, 2) := by decide +kernel
theorem dL_claimsHold_149 : decode cL_claimsHold 149 = .ok (.iload_n 2, 1) := by decide +kernel
theorem dL_claimsHold_150 : decode cL_claimsHold 150 = .ok (.if_icmp .ge 46, 3) := by decide +kernel
theorem dL_claimsHold_153 : decode cL_claimsHold 153 = .ok (.iload_n 3, 1) := by decide +kernel
theorem dL_claimsHold_154 : decode cL_claimsHold 154 = .ok (.ifCond .eq 42, 3) := by decide +kernel
theorem dL_claimsHold_157 : decode cL_claimsHold 157 = .ok (.aload_n 0, 1) := by decide +kernel
theorem dL_claimsHold_158 : decode cL_claimsHold 158 = .ok (.iload 4, 2) := by decide +kernel
theorem dL_claimsHold_160 : decode cL_claimsHold 160 = .ok (.invokestatic 110, 3) := by decide +kernel
theorem dL_claimsHold_163 : decode cL_claimsHold 163 = .ok (.aload_n 0, 1) := by decide +kernel
theorem dL_claimsHold_164 : decode cL_claimsHold 164 = .ok (.iload 4, 2) := by decide +kernel
theorem dL_claimsHold_166 : decode cL_claimsHold 166 = .ok (.invokestatic 116, 3) := by decide +kernel
theorem dL_claimsHold_169 : decode cL_claimsHold 169 = .ok (.lcmp, 1) := by decide +kernel
theorem dL_claimsHold_170 : decode cL_claimsHold 170 = .ok (.ifCond .ne 18, 3) := by decide +kernel
theorem dL_claimsHold_173 : decode cL_claimsHold 173 = .ok (.aload_n 0, 1) := by decide +kernel
theorem dL_claimsHold_174 : decode cL_claimsHold 174 = .ok (.iload 4, 2) := by decide +kernel
theorem dL_claimsHold_176 : decode cL_claimsHold 176 = .ok (.invokestatic 110, 3) := by decide +kernel
theorem dL_claimsHold_179 : decode cL_claimsHold 179 = .ok (.lconst 0, 1) := by decide +kernel
theorem dL_claimsHold_180 : decode cL_claimsHold 180 = .ok (.lcmp, 1) := by decide +kernel
theorem dL_claimsHold_181 : decode cL_claimsHold 181 = .ok (.ifCond .lt 7, 3) := by decide +kernel
theorem dL_claimsHold_184 : decode cL_claimsHold 184 = .ok (.iconst 1, 1) := by decide +kernel
theorem dL_claimsHold_185 : decode cL_claimsHold 185 = .ok (.goto 4, 3) := by decide +kernel
theorem dL_claimsHold_188 : decode cL_claimsHold 188 = .ok (.iconst 0, 1) := by decide +kernel
theorem dL_claimsHold_189 : decode cL_claimsHold 189 = .ok (.istore_n 3, 1) := by decide +kernel
theorem dL_claimsHold_190 : decode cL_claimsHold 190 = .ok (.iinc 4 1, 3) := by decide +kernel
theorem dL_claimsHold_193 : decode cL_claimsHold 193 = .ok (.goto (-46), 3) := by decide +kernel
theorem dL_claimsHold_196 : decode cL_claimsHold 196 = .ok (.iload_n 3, 1) := by decide +kernel
theorem dL_claimsHold_197 : decode cL_claimsHold 197 = .ok (.ireturn, 1) := by decide +kernel
set_option maxRecDepth 20000 in
theorem ggL_refuses_X5_month : GoodIn wsL_refuses wsX5_month := goodIn_r _ [7, 8, 478, 479, 480, 481, 482, 483, 484, 485, 486, 487] (by decide +kernel) (by decide +kernel)
set_option maxRecDepth 20000 in
theorem gL_refuses_X5_month : GoodIn wsL_refuses (wsV RL 112 RX5 yX5_month wsX5_month) := goodIn_app (goodIn_of _ (by decide +kernel)) ggL_refuses_X5_month
set_option maxRecDepth 20000 in
theorem ggL_refuses_L_balance : GoodIn wsL_refuses wsL_balance := goodIn_ca (goodIn_r _ [12, 13, 2, 14, 15, 16, 6, 17, 18, 19, 20, 21, 22, 23, 24, 25, 26, 27, 28, 29, 30, 31, 32, 33, 34, 35, 36, 37, 38, 39, 40, 41, 42, 43, 44, 45, 46, 47, 48, 49, 50, 51, 52, 53, 54, 55, 478, 479, 480, 481, 482, 483, 484, 485, 486, 487, 488, 489, 490, 491, 492, 493, 494, 495, 496, 497, 498] (by decide +kernel) (by decide +kernel)) (goodIn_sub (fun _ h => List.mem_cons_of_mem _ (List.mem_append_left _ (List.mem_append_left _ (List.mem_append_right _ h)))) (by decide +kernel))
set_option maxRecDepth 20000 in
theorem gL_refuses_L_balance : GoodIn wsL_refuses (va_wsS RL 97 yL_balance wsL_balance) := goodIn_app (goodIn_of _ (by decide +kernel)) ggL_refuses_L_balance
set_option maxRecDepth 20000 in
theorem ggL_refuses_L_ground : GoodIn wsL_refuses wsL_ground := goodIn_ca (goodIn_ca (goodIn_r _ [58, 59, 13, 1, 2, 60, 61, 62, 6, 63, 28, 64, 18, 65, 66, 67, 68, 69, 70, 71, 72, 73, 19, 20, 21, 22, 23, 74, 37, 38, 39, 40, 41, 42, 43, 44, 45, 46, 47, 48, 478, 479, 480, 481, 482, 483, 484, 485, 486, 487, 488, 489, 490, 491, 492, 493, 494, 495, 496, 497, 498] (by decide +kernel) (by decide +kernel)) (goodIn_sub (fun _ h => List.mem_cons_of_mem _ (List.mem_append_left _ (List.mem_append_right _ h))) (by decide +kernel))) (goodIn_sub (fun _ h => List.mem_cons_of_mem _ (List.mem_append_left _ (List.mem_append_left _ (List.mem_append_right _ h)))) (by decide +kernel))
set_option maxRecDepth 20000 in
theorem gL_refuses_L_ground : GoodIn wsL_refuses (va_wsS RL 118 yL_ground wsL_ground) := goodIn_app (goodIn_of _ (by decide +kernel)) ggL_refuses_L_ground
set_option maxRecDepth 20000 in
theorem ggL_refuses_L_moss : GoodIn wsL_refuses wsL_moss := goodIn_ca (goodIn_ca (goodIn_r _ [77, 59, 13, 1, 2, 78, 79, 80, 6, 81, 28, 82, 69, 70, 71, 72, 73, 19, 20, 21, 22, 23, 478, 479, 480, 481, 482, 483, 484, 485, 486, 487, 488, 489, 490, 491, 492, 493, 494] (by decide +kernel) (by decide +kernel)) (goodIn_sub (fun _ h => List.mem_cons_of_mem _ (List.mem_append_left _ (List.mem_append_right _ h))) (by decide +kernel))) (goodIn_sub (fun _ h => List.mem_cons_of_mem _ (List.mem_append_left _ (List.mem_append_left _ (List.mem_append_right _ h)))) (by decide +kernel))
