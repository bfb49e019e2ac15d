set_option maxRecDepth 20000 in
theorem gL_refuses_L_claimAnew : GoodIn wsL_refuses (va_wsS RL 116 yL_claimAnew wsL_claimAnew) := goodIn_app (goodIn_of _ (by decide +kernel)) ggL_refuses_L_claimAnew
set_option maxRecDepth 20000 in
theorem ggL_refuses_L_air : GoodIn wsL_refuses wsL_air := goodIn_ca (goodIn_r _ [473, 13, 2, 474, 475, 476, 6, 477, 55, 19, 20, 21, 22, 23, 478, 479, 480, 481, 482, 483, 484, 485, 486, 487] (by decide +kernel) (by decide +kernel)) (goodIn_sub (fun _ h => List.mem_cons_of_mem _ (List.mem_append_left _ (List.mem_append_left _ (List.mem_append_right _ h)))) (by decide +kernel))
set_option maxRecDepth 20000 in
theorem gL_refuses_L_air : GoodIn wsL_refuses (va_wsS RL 99 yL_air wsL_air) := goodIn_app (goodIn_of _ (by decide +kernel)) ggL_refuses_L_air
theorem dL_refuses_0 : decode cL_refuses 0 = .ok (.aload_n 0, 1) := by decide +kernel
theorem dL_refuses_1 : decode cL_refuses 1 = .ok (.invokevirtual 112, 3) := by decide +kernel
theorem dL_refuses_4 : decode cL_refuses 4 = .ok (.istore_n 1, 1) := by decide +kernel
theorem dL_refuses_5 : decode cL_refuses 5 = .ok (.aload_n 0, 1) := by decide +kernel
theorem dL_refuses_6 : decode cL_refuses 6 = .ok (.iconst 0, 1) := by decide +kernel
theorem dL_refuses_7 : decode cL_refuses 7 = .ok (.iconst 0, 1) := by decide +kernel
theorem dL_refuses_8 : decode cL_refuses 8 = .ok (.invokestatic 97, 3) := by decide +kernel
theorem dL_refuses_11 : decode cL_refuses 11 = .ok (.lstore_n 2, 1) := by decide +kernel
theorem dL_refuses_12 : decode cL_refuses 12 = .ok (.aload_n 0, 1) := by decide +kernel
theorem dL_refuses_13 : decode cL_refuses 13 = .ok (.bipush 25, 2) := by decide +kernel
theorem dL_refuses_15 : decode cL_refuses 15 = .ok (.iconst 0, 1) := by decide +kernel
theorem dL_refuses_16 : decode cL_refuses 16 = .ok (.iconst 0, 1) := by decide +kernel
theorem dL_refuses_17 : decode cL_refuses 17 = .ok (.iconst 0, 1) := by decide +kernel
theorem dL_refuses_18 : decode cL_refuses 18 = .ok (.iconst 0, 1) := by decide +kernel
theorem dL_refuses_19 : decode cL_refuses 19 = .ok (.iconst 0, 1) := by decide +kernel
theorem dL_refuses_20 : decode cL_refuses 20 = .ok (.invokestatic 118, 3) := by decide +kernel
theorem dL_refuses_23 : decode cL_refuses 23 = .ok (.ldc2_w 17, 3) := by decide +kernel
theorem dL_refuses_26 : decode cL_refuses 26 = .ok (.lcmp, 1) := by decide +kernel
theorem dL_refuses_27 : decode cL_refuses 27 = .ok (.ifCond .ne 222, 3) := by decide +kernel
theorem dL_refuses_30 : decode cL_refuses 30 = .ok (.aload_n 0, 1) := by decide +kernel
theorem dL_refuses_31 : decode cL_refuses 31 = .ok (.iconst 0, 1) := by decide +kernel
theorem dL_refuses_32 : decode cL_refuses 32 = .ok (.iconst 5, 1) := by decide +kernel
theorem dL_refuses_33 : decode cL_refuses 33 = .ok (.iconst 0, 1) := by decide +kernel
theorem dL_refuses_34 : decode cL_refuses 34 = .ok (.iconst 0, 1) := by decide +kernel
theorem dL_refuses_35 : decode cL_refuses 35 = .ok (.iconst 0, 1) := by decide +kernel
theorem dL_refuses_36 : decode cL_refuses 36 = .ok (.iconst 0, 1) := by decide +kernel
theorem dL_refuses_37 : decode cL_refuses 37 = .ok (.invokestatic 118, 3) := by decide +kernel
theorem dL_refuses_40 : decode cL_refuses 40 = .ok (.ldc2_w 17, 3) := by decide +kernel
theorem dL_refuses_43 : decode cL_refuses 43 = .ok (.lcmp, 1) := by decide +kernel
theorem dL_refuses_44 : decode cL_refuses 44 = .ok (.ifCond .ne 205, 3) := by decide +kernel
theorem dL_refuses_47 : decode cL_refuses 47 = .ok (.aload_n 0, 1) := by decide +kernel
theorem dL_refuses_48 : decode cL_refuses 48 = .ok (.iconst 0, 1) := by decide +kernel
theorem dL_refuses_49 : decode cL_refuses 49 = .ok (.iconst 0, 1) := by decide +kernel
theorem dL_refuses_50 : decode cL_refuses 50 = .ok (.bipush 10, 2) := by decide +kernel
theorem dL_refuses_52 : decode cL_refuses 52 = .ok (.iconst 0, 1) := by decide +kernel
theorem dL_refuses_53 : decode cL_refuses 53 = .ok (.iconst 0, 1) := by decide +kernel
theorem dL_refuses_54 : decode cL_refuses 54 = .ok (.iconst 0, 1) := by decide +kernel
theorem dL_refuses_55 : decode cL_refuses 55 = .ok (.invokestatic 118, 3) := by decide +kernel
theorem dL_refuses_58 : decode cL_refuses 58 = .ok (.ldc2_w 21, 3) := by decide +kernel
theorem dL_refuses_61 : decode cL_refuses 61 = .ok (.lcmp, 1) := by decide +kernel
theorem dL_refuses_62 : decode cL_refuses 62 = .ok (.ifCond .ne 187, 3) := by decide +kernel
theorem dL_refuses_65 : decode cL_refuses 65 = .ok (.aload_n 0, 1) := by decide +kernel
theorem dL_refuses_66 : decode cL_refuses 66 = .ok (.iconst 0, 1) := by decide +kernel
theorem dL_refuses_67 : decode cL_refuses 67 = .ok (.iconst 0, 1) := by decide +kernel
theorem dL_refuses_68 : decode cL_refuses 68 = .ok (.iconst 0, 1) := by decide +kernel
theorem dL_refuses_69 : decode cL_refuses 69 = .ok (.iconst (-1), 1) := by decide +kernel
theorem dL_refuses_70 : decode cL_refuses 70 = .ok (.iconst 0, 1) := by decide +kernel
theorem dL_refuses_71 : decode cL_refuses 71 = .ok (.iconst 0, 1) := by decide +kernel
theorem dL_refuses_72 : decode cL_refuses 72 = .ok (.invokestatic 118, 3) := by decide +kernel
theorem dL_refuses_75 : decode cL_refuses 75 = .ok (.ldc2_w 21, 3) := by decide +kernel
theorem dL_refuses_78 : decode cL_refuses 78 = .ok (.lcmp, 1) := by decide +kernel
theorem dL_refuses_79 : decode cL_refuses 79 = .ok (.ifCond .ne 170, 3) := by decide +kernel
theorem dL_refuses_82 : decode cL_refuses 82 = .ok (.aload_n 0, 1) := by decide +kernel
theorem dL_refuses_83 : decode cL_refuses 83 = .ok (.iconst 0, 1) := by decide +kernel
theorem dL_refuses_84 : decode cL_refuses 84 = .ok (.iconst 0, 1) := by decide +kernel
theorem dL_refuses_85 : decode cL_refuses 85 = .ok (.iconst 0, 1) := by decide +kernel
theorem dL_refuses_86 : decode cL_refuses 86 = .ok (.iconst 0, 1) := by decide +kernel
theorem dL_refuses_87 : decode cL_refuses 87 = .ok (.sipush 30001, 3) := by decide +kernel
theorem dL_refuses_90 : decode cL_refuses 90 = .ok (.iconst 0, 1) := by decide +kernel
theorem dL_refuses_91 : decode cL_refuses 91 = .ok (.invokestatic 118, 3) := by decide +kernel
theorem dL_refuses_94 : decode cL_refuses 94 = .ok (.ldc2_w 21, 3) := by decide +kernel
theorem dL_refuses_97 : decode cL_refuses 97 = .ok (.lcmp, 1) := by decide +kernel
theorem dL_refuses_98 : decode cL_refuses 98 = .ok (.ifCond .ne 151, 3) := by decide +kernel
theorem dL_refuses_101 : decode cL_refuses 101 = .ok (.aload_n 0, 1) := by decide +kernel
theorem dL_refuses_102 : decode cL_refuses 102 = .ok (.iconst 0, 1) := by decide +kernel
theorem dL_refuses_103 : decode cL_refuses 103 = .ok (.iconst 0, 1) := by decide +kernel
theorem dL_refuses_104 : decode cL_refuses 104 = .ok (.iconst 0, 1) := by decide +kernel
theorem dL_refuses_105 : decode cL_refuses 105 = .ok (.iconst 0, 1) := by decide +kernel
theorem dL_refuses_106 : decode cL_refuses 106 = .ok (.iconst 0, 1) := by decide +kernel
theorem dL_refuses_107 : decode cL_refuses 107 = .ok (.sipush 1001, 3) := by decide +kernel
theorem dL_refuses_110 : decode cL_refuses 110 = .ok (.invokestatic 118, 3) := by decide +kernel
theorem dL_refuses_113 : decode cL_refuses 113 = .ok (.ldc2_w 21, 3) := by decide +kernel
theorem dL_refuses_116 : decode cL_refuses 116 = .ok (.lcmp, 1) := by decide +kernel
theorem dL_refuses_117 : decode cL_refuses 117 = .ok (.ifCond .ne 132, 3) := by decide +kernel
theorem dL_refuses_120 : decode cL_refuses 120 = .ok (.aload_n 0, 1) := by decide +kernel
theorem dL_refuses_121 : decode cL_refuses 121 = .ok (.iconst (-1), 1) := by decide +kernel
theorem dL_refuses_122 : decode cL_refuses 122 = .ok (.iconst 0, 1) := by decide +kernel
theorem dL_refuses_123 : decode cL_refuses 123 = .ok (.invokestatic 121, 3) := by decide +kernel
theorem dL_refuses_126 : decode cL_refuses 126 = .ok (.ldc2_w 17, 3) := by decide +kernel
theorem dL_refuses_129 : decode cL_refuses 129 = .ok (.lcmp, 1) := by decide +kernel
theorem dL_refuses_130 : decode cL_refuses 130 = .ok (.ifCond .ne 119, 3) := by decide +kernel
theorem dL_refuses_133 : decode cL_refuses 133 = .ok (.aload_n 0, 1) := by decide +kernel
theorem dL_refuses_134 : decode cL_refuses 134 = .ok (.iconst 0, 1) := by decide +kernel
theorem dL_refuses_135 : decode cL_refuses 135 = .ok (.iconst 4, 1) := by decide +kernel
theorem dL_refuses_136 : decode cL_refuses 136 = .ok (.invokestatic 121, 3) := by decide +kernel
theorem dL_refuses_139 : decode cL_refuses 139 = .ok (.ldc2_w 21, 3) := by decide +kernel
theorem dL_refuses_142 : decode cL_refuses 142 = .ok (.lcmp, 1) := by decide +kernel
theorem dL_refuses_143 : decode cL_refuses 143 = .ok (.ifCond .ne 106, 3) := by decide +kernel
theorem dL_refuses_146 : decode cL_refuses 146 = .ok (.aload_n 0, 1) := by decide +kernel
theorem dL_refuses_147 : decode cL_refuses 147 = .ok (.bipush 25, 2) := by decide +kernel
theorem dL_refuses_149 : decode cL_refuses 149 = .ok (.iconst 0, 1) := by decide +kernel
theorem dL_refuses_150 : decode cL_refuses 150 = .ok (.iconst 0, 1) := by decide +kernel
theorem dL_refuses_151 : decode cL_refuses 151 = .ok (.invokestatic 123, 3) := by decide +kernel
theorem dL_refuses_154 : decode cL_refuses 154 = .ok (.ldc2_w 21, 3) := by decide +kernel
theorem dL_refuses_157 : decode cL_refuses 157 = .ok (.lcmp, 1) := by decide +kernel
theorem dL_refuses_158 : decode cL_refuses 158 = .ok (.ifCond .ne 91, 3) := by decide +kernel
theorem dL_refuses_161 : decode cL_refuses 161 = .ok (.aload_n 0, 1) := by decide +kernel
theorem dL_refuses_162 : decode cL_refuses 162 = .ok (.iconst 1, 1) := by decide +kernel
theorem dL_refuses_163 : decode cL_refuses 163 = .ok (.bipush 31, 2) := by decide +kernel
theorem dL_refuses_165 : decode cL_refuses 165 = .ok (.iconst 0, 1) := by decide +kernel
theorem dL_refuses_166 : decode cL_refuses 166 = .ok (.invokestatic 123, 3) := by decide +kernel
theorem dL_refuses_169 : decode cL_refuses 169 = .ok (.ldc2_w 21, 3) := by decide +kernel
theorem dL_refuses_172 : decode cL_refuses 172 = .ok (.lcmp, 1) := by decide +kernel
theorem dL_refuses_173 : decode cL_refuses 173 = .ok (.ifCond .ne 76, 3) := by decide +kernel
theorem dL_refuses_176 : decode cL_refuses 176 = .ok (.aload_n 0, 1) := by decide +kernel
theorem dL_refuses_177 : decode cL_refuses 177 = .ok (.iconst 1, 1) := by decide +kernel
theorem dL_refuses_178 : decode cL_refuses 178 = .ok (.iconst 0, 1) := by decide +kernel
theorem dL_refuses_179 : decode cL_refuses 179 = .ok (.bipush 10, 2) := by decide +kernel
theorem dL_refuses_181 : decode cL_refuses 181 = .ok (.invokestatic 123, 3) := by decide +kernel
theorem dL_refuses_184 : decode cL_refuses 184 = .ok (.ldc2_w 21, 3) := by decide +kernel
theorem dL_refuses_187 : decode cL_refuses 187 = .ok (.lcmp, 1) := by decide +kernel
theorem dL_refuses_188 : decode cL_refuses 188 = .ok (.ifCond .ne 61, 3) := by decide +kernel
theorem dL_refuses_191 : decode cL_refuses 191 = .ok (.aload_n 0, 1) := by decide +kernel
theorem dL_refuses_192 : decode cL_refuses 192 = .ok (.bipush 25, 2) := by decide +kernel
theorem dL_refuses_194 : decode cL_refuses 194 = .ok (.invokestatic 125, 3) := by decide +kernel
theorem dL_refuses_197 : decode cL_refuses 197 = .ok (.ldc2_w 17, 3) := by decide +kernel
theorem dL_refuses_200 : decode cL_refuses 200 = .ok (.lcmp, 1) := by decide +kernel
theorem dL_refuses_201 : decode cL_refuses 201 = .ok (.ifCond .ne 48, 3) := by decide +kernel
theorem dL_refuses_204 : decode cL_refuses 204 = .ok (.aload_n 0, 1) := by decide +kernel
theorem dL_refuses_205 : decode cL_refuses 205 = .ok (.iconst (-1), 1) := by decide +kernel
theorem dL_refuses_206 : decode cL_refuses 206 = .ok (.invokestatic 127, 3) := by decide +kernel
theorem dL_refuses_209 : decode cL_refuses 209 = .ok (.ldc2_w 17, 3) := by decide +kernel
theorem dL_refuses_212 : decode cL_refuses 212 = .ok (.lcmp, 1) := by decide +kernel
theorem dL_refuses_213 : decode cL_refuses 213 = .ok (.ifCond .ne 36, 3) := by decide +kernel
theorem dL_refuses_216 : decode cL_refuses 216 = .ok (.aload_n 0, 1) := by decide +kernel
theorem dL_refuses_217 : decode cL_refuses 217 = .ok (.bipush 25, 2) := by decide +kernel
theorem dL_refuses_219 : decode cL_refuses 219 = .ok (.iconst 1, 1) := by decide +kernel
theorem dL_refuses_220 : decode cL_refuses 220 = .ok (.iconst 1, 1) := by decide +kernel
theorem dL_refuses_221 : decode cL_refuses 221 = .ok (.invokestatic 129, 3) := by decide +kernel
theorem dL_refuses_224 : decode cL_refuses 224 = .ok (.ldc2_w 17, 3) := by decide +kernel
theorem dL_refuses_227 : decode cL_refuses 227 = .ok (.lcmp, 1) := by decide +kernel
theorem dL_refuses_228 : decode cL_refuses 228 = .ok (.ifCond .ne 21, 3) := by decide +kernel
theorem dL_refuses_231 : decode cL_refuses 231 = .ok (.aload_n 0, 1) := by decide +kernel
theorem dL_refuses_232 : decode cL_refuses 232 = .ok (.iconst 0, 1) := by decide +kernel
theorem dL_refuses_233 : decode cL_refuses 233 = .ok (.iconst 0, 1) := by decide +kernel
theorem dL_refuses_234 : decode cL_refuses 234 = .ok (.iconst 1, 1) := by decide +kernel
theorem dL_refuses_235 : decode cL_refuses 235 = .ok (.invokestatic 129, 3) := by decide +kernel
theorem dL_refuses_238 : decode cL_refuses 238 = .ok (.ldc2_w 17, 3) := by decide +kernel
theorem dL_refuses_241 : decode cL_refuses 241 = .ok (.lcmp, 1) := by decide +kernel
theorem dL_refuses_242 : decode cL_refuses 242 = .ok (.ifCond .ne 7, 3) := by decide +kernel
theorem dL_refuses_245 : decode cL_refuses 245 = .ok (.iconst 1, 1) := by decide +kernel
theorem dL_refuses_246 : decode cL_refuses 246 = .ok (.goto 4, 3) := by decide +kernel
theorem dL_refuses_249 : decode cL_refuses 249 = .ok (.iconst 0, 1) := by decide +kernel
theorem dL_refuses_250 : decode cL_refuses 250 = .ok (.istore 4, 2) := by decide +kernel
theorem dL_refuses_252 : decode cL_refuses 252 = .ok (.iload 4, 2) := by decide +kernel
theorem dL_refuses_254 : decode cL_refuses 254 = .ok (.ifCond .eq 203, 3) := by decide +kernel
theorem dL_refuses_257 : decode cL_refuses 257 = .ok (.aload_n 0, 1) := by decide +kernel
theorem dL_refuses_258 : decode cL_refuses 258 = .ok (.bipush 25, 2) := by decide +kernel
theorem dL_refuses_260 : decode cL_refuses 260 = .ok (.iconst 0, 1) := by decide +kernel
theorem dL_refuses_261 : decode cL_refuses 261 = .ok (.invokestatic 132, 3) := by decide +kernel
theorem dL_refuses_264 : decode cL_refuses 264 = .ok (.ldc2_w 17, 3) := by decide +kernel
theorem dL_refuses_267 : decode cL_refuses 267 = .ok (.lcmp, 1) := by decide +kernel
theorem dL_refuses_268 : decode cL_refuses 268 = .ok (.ifCond .ne 189, 3) := by decide +kernel
theorem dL_refuses_271 : decode cL_refuses 271 = .ok (.aload_n 0, 1) := by decide +kernel
theorem dL_refuses_272 : decode cL_refuses 272 = .ok (.iconst 0, 1) := by decide +kernel
theorem dL_refuses_273 : decode cL_refuses 273 = .ok (.bipush 13, 2) := by decide +kernel
theorem dL_refuses_275 : decode cL_refuses 275 = .ok (.invokestatic 132, 3) := by decide +kernel
theorem dL_refuses_278 : decode cL_refuses 278 = .ok (.ldc2_w 21, 3) := by decide +kernel
theorem dL_refuses_281 : decode cL_refuses 281 = .ok (.lcmp, 1) := by decide +kernel
theorem dL_refuses_282 : decode cL_refuses 282 = .ok (.ifCond .ne 175, 3) := by decide +kernel
theorem dL_refuses_285 : decode cL_refuses 285 = .ok (.aload_n 0, 1) := by decide +kernel
theorem dL_refuses_286 : decode cL_refuses 286 = .ok (.bipush 10, 2) := by decide +kernel
theorem dL_refuses_288 : decode cL_refuses 288 = .ok (.invokestatic 134, 3) := by decide +kernel
theorem dL_refuses_291 : decode cL_refuses 291 = .ok (.ldc2_w 17, 3) := by decide +kernel
theorem dL_refuses_294 : decode cL_refuses 294 = .ok (.lcmp, 1) := by decide +kernel
theorem dL_refuses_295 : decode cL_refuses 295 = .ok (.ifCond .ne 162, 3) := by decide +kernel
theorem dL_refuses_298 : decode cL_refuses 298 = .ok (.aload_n 0, 1) := by decide +kernel
theorem dL_refuses_299 : decode cL_refuses 299 = .ok (.iconst 0, 1) := by decide +kernel
theorem dL_refuses_300 : decode cL_refuses 300 = .ok (.bipush 8, 2) := by decide +kernel
theorem dL_refuses_302 : decode cL_refuses 302 = .ok (.invokestatic 81, 3) := by decide +kernel
theorem dL_refuses_305 : decode cL_refuses 305 = .ok (.ldc2_w 21, 3) := by decide +kernel
theorem dL_refuses_308 : decode cL_refuses 308 = .ok (.lcmp, 1) := by decide +kernel
theorem dL_refuses_309 : decode cL_refuses 309 = .ok (.ifCond .ne 148, 3) := by decide +kernel
theorem dL_refuses_312 : decode cL_refuses 312 = .ok (.aload_n 0, 1) := by decide +kernel
theorem dL_refuses_313 : decode cL_refuses 313 = .ok (.iconst 0, 1) := by decide +kernel
theorem dL_refuses_314 : decode cL_refuses 314 = .ok (.iconst (-1), 1) := by decide +kernel
theorem dL_refuses_315 : decode cL_refuses 315 = .ok (.iconst 0, 1) := by decide +kernel
theorem dL_refuses_316 : decode cL_refuses 316 = .ok (.invokestatic 88, 3) := by decide +kernel
theorem dL_refuses_319 : decode cL_refuses 319 = .ok (.ldc2_w 17, 3) := by decide +kernel
theorem dL_refuses_322 : decode cL_refuses 322 = .ok (.lcmp, 1) := by decide +kernel
theorem dL_refuses_323 : decode cL_refuses 323 = .ok (.ifCond .ne 134, 3) := by decide +kernel
theorem dL_refuses_326 : decode cL_refuses 326 = .ok (.aload_n 0, 1) := by decide +kernel
theorem dL_refuses_327 : decode cL_refuses 327 = .ok (.iconst 0, 1) := by decide +kernel
theorem dL_refuses_328 : decode cL_refuses 328 = .ok (.iconst 0, 1) := by decide +kernel
theorem dL_refuses_329 : decode cL_refuses 329 = .ok (.bipush 6, 2) := by decide +kernel
theorem dL_refuses_331 : decode cL_refuses 331 = .ok (.invokestatic 88, 3) := by decide +kernel
theorem dL_refuses_334 : decode cL_refuses 334 = .ok (.ldc2_w 21, 3) := by decide +kernel
theorem dL_refuses_337 : decode cL_refuses 337 = .ok (.lcmp, 1) := by decide +kernel
theorem dL_refuses_338 : decode cL_refuses 338 = .ok (.ifCond .ne 119, 3) := by decide +kernel
theorem dL_refuses_341 : decode cL_refuses 341 = .ok (.aload_n 0, 1) := by decide +kernel
theorem dL_refuses_342 : decode cL_refuses 342 = .ok (.iconst 0, 1) := by decide +kernel
theorem dL_refuses_343 : decode cL_refuses 343 = .ok (.iconst (-1), 1) := by decide +kernel
theorem dL_refuses_344 : decode cL_refuses 344 = .ok (.invokestatic 106, 3) := by decide +kernel
theorem dL_refuses_347 : decode cL_refuses 347 = .ok (.ldc2_w 17, 3) := by decide +kernel
theorem dL_refuses_350 : decode cL_refuses 350 = .ok (.lcmp, 1) := by decide +kernel
theorem dL_refuses_351 : decode cL_refuses 351 = .ok (.ifCond .ne 106, 3) := by decide +kernel
theorem dL_refuses_354 : decode cL_refuses 354 = .ok (.aload_n 0, 1) := by decide +kernel
theorem dL_refuses_355 : decode cL_refuses 355 = .ok (.bipush 10, 2) := by decide +kernel
theorem dL_refuses_357 : decode cL_refuses 357 = .ok (.iconst 0, 1) := by decide +kernel
theorem dL_refuses_358 : decode cL_refuses 358 = .ok (.invokestatic 108, 3) := by decide +kernel
theorem dL_refuses_361 : decode cL_refuses 361 = .ok (.ldc2_w 17, 3) := by decide +kernel
theorem dL_refuses_364 : decode cL_refuses 364 = .ok (.lcmp, 1) := by decide +kernel
theorem dL_refuses_365 : decode cL_refuses 365 = .ok (.ifCond .ne 92, 3) := by decide +kernel
theorem dL_refuses_368 : decode cL_refuses 368 = .ok (.aload_n 0, 1) := by decide +kernel
theorem dL_refuses_369 : decode cL_refuses 369 = .ok (.bipush 10, 2) := by decide +kernel
theorem dL_refuses_371 : decode cL_refuses 371 = .ok (.iconst 0, 1) := by decide +kernel
theorem dL_refuses_372 : decode cL_refuses 372 = .ok (.iconst 0, 1) := by decide +kernel
theorem dL_refuses_373 : decode cL_refuses 373 = .ok (.invokestatic 136, 3) := by decide +kernel
theorem dL_refuses_376 : decode cL_refuses 376 = .ok (.ldc2_w 17, 3) := by decide +kernel
theorem dL_refuses_379 : decode cL_refuses 379 = .ok (.lcmp, 1) := by decide +kernel
theorem dL_refuses_380 : decode cL_refuses 380 = .ok (.ifCond .ne 77, 3) := by decide +kernel
theorem dL_refuses_383 : decode cL_refuses 383 = .ok (.aload_n 0, 1) := by decide +kernel
theorem dL_refuses_384 : decode cL_refuses 384 = .ok (.bipush 40, 2) := by decide +kernel
theorem dL_refuses_386 : decode cL_refuses 386 = .ok (.invokestatic 116, 3) := by decide +kernel
theorem dL_refuses_389 : decode cL_refuses 389 = .ok (.ldc2_w 17, 3) := by decide +kernel
theorem dL_refuses_392 : decode cL_refuses 392 = .ok (.lcmp, 1) := by decide +kernel
theorem dL_refuses_393 : decode cL_refuses 393 = .ok (.ifCond .ne 64, 3) := by decide +kernel
theorem dL_refuses_396 : decode cL_refuses 396 = .ok (.aload_n 0, 1) := by decide +kernel
theorem dL_refuses_397 : decode cL_refuses 397 = .ok (.iconst 3, 1) := by decide +kernel
theorem dL_refuses_398 : decode cL_refuses 398 = .ok (.iconst 0, 1) := by decide +kernel
theorem dL_refuses_399 : decode cL_refuses 399 = .ok (.invokestatic 97, 3) := by decide +kernel
theorem dL_refuses_402 : decode cL_refuses 402 = .ok (.ldc2_w 21, 3) := by decide +kernel
theorem dL_refuses_405 : decode cL_refuses 405 = .ok (.lcmp, 1) := by decide +kernel
theorem dL_refuses_406 : decode cL_refuses 406 = .ok (.ifCond .ne 51, 3) := by decide +kernel
theorem dL_refuses_409 : decode cL_refuses 409 = .ok (.aload_n 0, 1) := by decide +kernel
theorem dL_refuses_410 : decode cL_refuses 410 = .ok (.iconst 0, 1) := by decide +kernel
theorem dL_refuses_411 : decode cL_refuses 411 = .ok (.iconst 4, 1) := by decide +kernel
theorem dL_refuses_412 : decode cL_refuses 412 = .ok (.invokestatic 97, 3) := by decide +kernel
theorem dL_refuses_415 : decode cL_refuses 415 = .ok (.ldc2_w 21, 3) := by decide +kernel
theorem dL_refuses_418 : decode cL_refuses 418 = .ok (.lcmp, 1) := by decide +kernel
theorem dL_refuses_419 : decode cL_refuses 419 = .ok (.ifCond .ne 38, 3) := by decide +kernel
theorem dL_refuses_422 : decode cL_refuses 422 = .ok (.aload_n 0, 1) := by decide +kernel
theorem dL_refuses_423 : decode cL_refuses 423 = .ok (.iconst 2, 1) := by decide +kernel
theorem dL_refuses_424 : decode cL_refuses 424 = .ok (.invokestatic 99, 3) := by decide +kernel
theorem dL_refuses_427 : decode cL_refuses 427 = .ok (.ldc2_w 21, 3) := by decide +kernel
theorem dL_refuses_430 : decode cL_refuses 430 = .ok (.lcmp, 1) := by decide +kernel
theorem dL_refuses_431 : decode cL_refuses 431 = .ok (.ifCond .ne 26, 3) := by decide +kernel
theorem dL_refuses_434 : decode cL_refuses 434 = .ok (.aload_n 0, 1) := by decide +kernel
theorem dL_refuses_435 : decode cL_refuses 435 = .ok (.invokevirtual 112, 3) := by decide +kernel
theorem dL_refuses_438 : decode cL_refuses 438 = .ok (.iload_n 1, 1) := by decide +kernel
theorem dL_refuses_439 : decode cL_refuses 439 = .ok (.if_icmp .ne 18, 3) := by decide +kernel
theorem dL_refuses_442 : decode cL_refuses 442 = .ok (.aload_n 0, 1) := by decide +kernel
theorem dL_refuses_443 : decode cL_refuses 443 = .ok (.iconst 0, 1) := by decide +kernel
theorem dL_refuses_444 : decode cL_refuses 444 = .ok (.iconst 0, 1) := by decide +kernel
theorem dL_refuses_445 : decode cL_refuses 445 = .ok (.invokestatic 97, 3) := by decide +kernel
theorem dL_refuses_448 : decode cL_refuses 448 = .ok (.lload_n 2, 1) := by decide +kernel
theorem dL_refuses_449 : decode cL_refuses 449 = .ok (.lcmp, 1) := by decide +kernel
theorem dL_refuses_450 : decode cL_refuses 450 = .ok (.ifCond .ne 7, 3) := by decide +kernel
theorem dL_refuses_453 : decode cL_refuses 453 = .ok (.iconst 1, 1) := by decide +kernel
theorem dL_refuses_454 : decode cL_refuses 454 = .ok (.goto 4, 3) := by decide +kernel
theorem dL_refuses_457 : decode cL_refuses 457 = .ok (.iconst 0, 1) := by decide +kernel
theorem dL_refuses_458 : decode cL_refuses 458 = .ok (.ireturn, 1) := by decide +kernel
set_option maxRecDepth 20000 in
theorem ggL_law_X5_init : GoodIn wsL_law wsX5_init := goodIn_r _ [11, 12, 13, 14, 15, 16, 17, 18, 19, 20, 21, 22, 23, 24, 25, 3, 26, 27, 28, 29, 30, 31, 32, 33, 34, 35, 36, 37, 38, 39, 40, 41, 42, 43, 44, 45, 46, 47, 48, 49, 50, 51, 52, 53, 54, 55, 56, 57, 58, 59, 60, 61, 62, 63, 64, 65, 66, 2, 67, 68, 69, 70, 71, 72, 73, 74, 75, 76, 77, 78, 79, 80, 553, 554, 555, 556, 557, 558, 559, 560, 561, 562, 563, 564, 565, 566, 567, 568, 569, 570, 571, 572, 573, 574, 575, 576] (by decide +kernel) (by decide +kernel)
set_option maxRecDepth 20000 in
theorem gL_law_X5_init : GoodIn wsL_law (wsX5_init) := ggL_law_X5_init
set_option maxRecDepth 20000 in
theorem ggL_law_L_draw : GoodIn wsL_law wsL_draw := goodIn_r _ [84, 85, 86] (by decide +kernel) (by decide +kernel)
set_option maxRecDepth 20000 in
theorem gL_law_L_draw : GoodIn wsL_law (va_wsS RL 139 yL_draw wsL_draw) := goodIn_app (goodIn_of _ (by decide +kernel)) ggL_law_L_draw
set_option maxRecDepth 20000 in
theorem ggL_law_X5_month : GoodIn wsL_law wsX5_month := goodIn_r _ [90, 91, 553, 554, 555, 556, 557, 558, 559, 560, 561, 562] (by decide +kernel) (by decide +kernel)
set_option maxRecDepth 20000 in
theorem gL_law_X5_month : GoodIn wsL_law (wsV RL 112 RX5 yX5_month wsX5_month) := goodIn_app (goodIn_of _ (by decide +kernel)) ggL_law_X5_month
set_option maxRecDepth 20000 in
theorem ggL_law_L_pass : GoodIn wsL_law wsL_pass := goodIn_ca (goodIn_ca (goodIn_r _ [94, 95, 96, 97, 7, 98, 99, 100, 2, 101, 91, 102, 103, 104, 105, 106, 107, 108, 109, 110, 111, 112, 113, 114, 115, 116, 117, 118, 119, 16, 120, 121, 122, 123, 124, 125, 126, 127, 128, 24, 129, 130, 131, 30, 132, 52, 133, 134, 135, 136, 54, 137, 138, 139, 51, 140, 61, 77, 78, 79, 80, 60, 63, 141, 142, 143, 144, 72, 145, 146, 147, 148, 149, 150, 151, 152, 153, 20, 154, 155, 156, 157, 158, 159, 160, 161, 19, 162, 163, 164, 165, 166, 167, 168, 169, 170, 171, 172, 173, 174, 175, 176, 177, 178, 179, 35, 180, 181, 182, 183, 184, 185, 186, 187, 53, 188, 189, 190, 191, 192, 193, 194, 195, 196, 197, 198, 199, 200, 201, 202, 203, 204, 205, 206, 207, 208, 209, 210, 211, 212, 213, 214, 215, 216, 217, 218, 219, 220, 221, 222, 223, 224, 225, 226, 227, 228, 229, 230, 231, 232, 25, 233, 234, 235, 236, 237, 238, 239, 240, 241, 242, 243, 62, 244, 245, 246, 247, 248, 249, 250, 251, 252, 253, 254, 255, 256, 257, 258, 21, 259, 260, 261, 262, 263, 264, 265, 266, 267, 268, 269, 553, 554, 555, 556, 557, 558, 559, 560, 561, 562, 566, 567, 568, 569, 570, 571, 572, 573, 574, 575, 576, 577, 578, 579, 580, 581, 563, 564, 565, 582, 583, 584, 585, 586] (by decide +kernel) (by decide +kernel)) (goodIn_sub (fun _ h => List.mem_append_left _ (List.mem_append_left _ (List.mem_append_right _ h))) (by decide +kernel))) (goodIn_sub (fun _ h => List.mem_append_left _ (List.mem_append_right _ h)) (by decide +kernel))
set_option maxRecDepth 20000 in
theorem gL_law_L_pass : GoodIn wsL_law (va_wsS RL 123 yL_pass wsL_pass) := goodIn_app (goodIn_of _ (by decide +kernel)) ggL_law_L_pass
set_option maxRecDepth 20000 in
theorem ggL_law_L_cellOf : GoodIn wsL_law wsL_cellOf := goodIn_ca (goodIn_ca (goodIn_r _ [272, 273, 95, 8, 97, 274, 275, 276, 2, 277, 16, 278, 202, 120, 233, 279, 280, 281, 282, 283, 284, 285, 102, 103, 104, 105, 106, 286, 287, 288, 289, 290, 291, 292, 293, 28, 294, 295, 296, 297, 26, 207, 298, 299, 300, 301, 208, 209, 210, 302, 303, 304, 30, 305, 52, 306, 252, 253, 51, 254, 61, 553, 554, 555, 556, 557, 558, 559, 560, 561, 562, 566, 567, 568, 569, 570, 571, 572, 573, 574, 575, 576] (by decide +kernel) (by decide +kernel)) (goodIn_sub (fun _ h => List.mem_append_right _ h) (by decide +kernel))) (goodIn_sub (fun _ h => List.mem_append_left _ (List.mem_append_left _ (List.mem_append_right _ h))) (by decide +kernel))
set_option maxRecDepth 20000 in
theorem gL_law_L_cellOf : GoodIn wsL_law (va_wsS RL 81 yL_cellOf wsL_cellOf) := goodIn_app (goodIn_of _ (by decide +kernel)) ggL_law_L_cellOf
set_option maxRecDepth 20000 in
theorem ggL_law_L_ground : GoodIn wsL_law wsL_ground := goodIn_ca (goodIn_ca (goodIn_r _ [309, 273, 95, 8, 97, 310, 311, 312, 2, 313, 16, 157, 24, 314, 315, 158, 234, 281, 282, 283, 284, 285, 102, 103, 104, 105, 106, 316, 74, 75, 51, 76, 61, 62, 77, 78, 79, 80, 60, 63, 553, 554, 555, 556, 557, 558, 559, 560, 561, 562, 566, 567, 568, 569, 570, 571, 572, 573, 574, 575, 576] (by decide +kernel) (by decide +kernel)) (goodIn_sub (fun _ h => List.mem_append_right _ h) (by decide +kernel))) (goodIn_sub (fun _ h => List.mem_append_left _ (List.mem_append_left _ (List.mem_append_right _ h))) (by decide +kernel))
