set_option maxRecDepth 20000 in
theorem gL_law_L_cellHolds : GoodIn wsL_law (va_wsS RL 150 yL_cellHolds wsL_cellHolds) := goodIn_app (goodIn_of _ (by decide +kernel)) ggL_law_L_cellHolds
set_option maxRecDepth 20000 in
theorem ggL_law_L_claimsHold : GoodIn wsL_law wsL_claimsHold := goodIn_ca (goodIn_ca (goodIn_r _ [531, 8, 520, 432, 433, 83, 434, 273, 95, 97, 435, 436, 437, 2, 438, 20, 154, 156, 249, 250, 439, 91, 159, 160, 161, 19, 162, 163, 281, 282, 283, 284, 285, 102, 103, 104, 105, 106, 164, 165, 166, 167, 168, 169, 170, 171, 172, 173, 174, 175, 176, 177, 178, 179, 35, 440, 441, 442, 443, 121, 122, 123, 124, 444, 445, 446, 447, 448, 449, 450, 451, 21, 259, 260, 452, 453, 454, 264, 455, 456, 266, 457, 458, 459, 460, 268, 495, 496, 497, 498, 499, 500, 501, 22, 502, 503, 87, 88, 89, 90, 270, 271, 272, 274, 275, 276, 277, 16, 278, 202, 120, 233, 279, 280, 286, 287, 288, 289, 290, 291, 292, 293, 28, 294, 295, 296, 297, 26, 207, 298, 299, 300, 301, 208, 209, 210, 302, 303, 304, 30, 305, 52, 306, 252, 253, 51, 254, 61, 532, 533, 534, 535, 536, 537, 538, 539, 540, 541, 553, 554, 555, 556, 557, 558, 559, 560, 561, 562, 577, 578, 579, 580, 581, 563, 564, 565, 582, 583, 584, 585, 586, 587, 588, 589, 590, 566, 567, 568, 569, 570, 571, 572, 573, 574, 575, 576] (by decide +kernel) (by decide +kernel)) (goodIn_sub (fun _ h => List.mem_append_right _ h) (by decide +kernel))) (goodIn_sub (fun _ h => List.mem_append_left _ (List.mem_append_left _ (List.mem_append_right _ h))) (by decide +kernel))
set_option maxRecDepth 20000 in
theorem gL_law_L_claimsHold : GoodIn wsL_law (va_wsS RL 154 yL_claimsHold wsL_claimsHold) := goodIn_app (goodIn_of _ (by decide +kernel)) ggL_law_L_claimsHold
set_option maxRecDepth 20000 in
theorem ggL_law_X5_lakes : GoodIn wsL_law wsX5_lakes := goodIn_r _ [545, 290, 291, 292, 2, 293, 28, 294, 295, 296, 297, 26, 207, 298, 299, 300, 301, 16, 202, 208, 209, 210, 546, 547, 548, 549, 235, 142, 143, 30, 144, 72, 553, 554, 555, 556, 557, 558, 559, 560, 561, 562, 566, 567, 568, 569, 570, 571, 572] (by decide +kernel) (by decide +kernel)
set_option maxRecDepth 20000 in
theorem gL_law_X5_lakes : GoodIn wsL_law (wsV RL 158 RX5 yX5_lakes wsX5_lakes) := goodIn_app (goodIn_of _ (by decide +kernel)) ggL_law_X5_lakes
theorem dL_law_0 : decode cL_law 0 = .ok (.new 10, 3) := by decide +kernel
theorem dL_law_3 : decode cL_law 3 = .ok (.dup, 1) := by decide +kernel
theorem dL_law_4 : decode cL_law 4 = .ok (.invokespecial 138, 3) := by decide +kernel
theorem dL_law_7 : decode cL_law 7 = .ok (.astore_n 1, 1) := by decide +kernel
theorem dL_law_8 : decode cL_law 8 = .ok (.iconst 1, 1) := by decide +kernel
theorem dL_law_9 : decode cL_law 9 = .ok (.istore_n 2, 1) := by decide +kernel
theorem dL_law_10 : decode cL_law 10 = .ok (.iconst 0, 1) := by decide +kernel
theorem dL_law_11 : decode cL_law 11 = .ok (.istore_n 3, 1) := by decide +kernel
theorem dL_law_12 : decode cL_law 12 = .ok (.iconst 0, 1) := by decide +kernel
theorem dL_law_13 : decode cL_law 13 = .ok (.istore 4, 2) := by decide +kernel
theorem dL_law_15 : decode cL_law 15 = .ok (.iconst 0, 1) := by decide +kernel
theorem dL_law_16 : decode cL_law 16 = .ok (.istore 5, 2) := by decide +kernel
theorem dL_law_18 : decode cL_law 18 = .ok (.bipush 10, 2) := by decide +kernel
theorem dL_law_20 : decode cL_law 20 = .ok (.newarray .int, 2) := by decide +kernel
theorem dL_law_22 : decode cL_law 22 = .ok (.astore 6, 2) := by decide +kernel
theorem dL_law_24 : decode cL_law 24 = .ok (.iconst 0, 1) := by decide +kernel
theorem dL_law_25 : decode cL_law 25 = .ok (.istore 7, 2) := by decide +kernel
theorem dL_law_27 : decode cL_law 27 = .ok (.iload 7, 2) := by decide +kernel
theorem dL_law_29 : decode cL_law 29 = .ok (.bipush 40, 2) := by decide +kernel
theorem dL_law_31 : decode cL_law 31 = .ok (.if_icmp .ge 1020, 3) := by decide +kernel
theorem dL_law_34 : decode cL_law 34 = .ok (.iload_n 2, 1) := by decide +kernel
theorem dL_law_35 : decode cL_law 35 = .ok (.ifCond .eq 1016, 3) := by decide +kernel
theorem dL_law_38 : decode cL_law 38 = .ok (.aload_n 0, 1) := by decide +kernel
theorem dL_law_39 : decode cL_law 39 = .ok (.iconst 2, 1) := by decide +kernel
theorem dL_law_40 : decode cL_law 40 = .ok (.iload 7, 2) := by decide +kernel
theorem dL_law_42 : decode cL_law 42 = .ok (.imul, 1) := by decide +kernel
theorem dL_law_43 : decode cL_law 43 = .ok (.invokestatic 139, 3) := by decide +kernel
theorem dL_law_46 : decode cL_law 46 = .ok (.istore 8, 2) := by decide +kernel
theorem dL_law_48 : decode cL_law 48 = .ok (.aload_n 0, 1) := by decide +kernel
theorem dL_law_49 : decode cL_law 49 = .ok (.iconst 2, 1) := by decide +kernel
theorem dL_law_50 : decode cL_law 50 = .ok (.iload 7, 2) := by decide +kernel
theorem dL_law_52 : decode cL_law 52 = .ok (.imul, 1) := by decide +kernel
theorem dL_law_53 : decode cL_law 53 = .ok (.iconst 1, 1) := by decide +kernel
theorem dL_law_54 : decode cL_law 54 = .ok (.iadd, 1) := by decide +kernel
theorem dL_law_55 : decode cL_law 55 = .ok (.invokestatic 139, 3) := by decide +kernel
theorem dL_law_58 : decode cL_law 58 = .ok (.istore 9, 2) := by decide +kernel
theorem dL_law_60 : decode cL_law 60 = .ok (.iload 8, 2) := by decide +kernel
theorem dL_law_62 : decode cL_law 62 = .ok (.bipush 12, 2) := by decide +kernel
theorem dL_law_64 : decode cL_law 64 = .ok (.irem, 1) := by decide +kernel
theorem dL_law_65 : decode cL_law 65 = .ok (.istore 10, 2) := by decide +kernel
theorem dL_law_67 : decode cL_law 67 = .ok (.iload 8, 2) := by decide +kernel
theorem dL_law_69 : decode cL_law 69 = .ok (.bipush 16, 2) := by decide +kernel
theorem dL_law_71 : decode cL_law 71 = .ok (.idiv, 1) := by decide +kernel
theorem dL_law_72 : decode cL_law 72 = .ok (.bipush 25, 2) := by decide +kernel
theorem dL_law_74 : decode cL_law 74 = .ok (.irem, 1) := by decide +kernel
theorem dL_law_75 : decode cL_law 75 = .ok (.istore 11, 2) := by decide +kernel
theorem dL_law_77 : decode cL_law 77 = .ok (.iload 10, 2) := by decide +kernel
theorem dL_law_79 : decode cL_law 79 = .ok (.iconst 4, 1) := by decide +kernel
theorem dL_law_80 : decode cL_law 80 = .ok (.if_icmp .ge 62, 3) := by decide +kernel
theorem dL_law_83 : decode cL_law 83 = .ok (.aload_n 1, 1) := by decide +kernel
theorem dL_law_84 : decode cL_law 84 = .ok (.invokevirtual 112, 3) := by decide +kernel
theorem dL_law_87 : decode cL_law 87 = .ok (.istore 12, 2) := by decide +kernel
theorem dL_law_89 : decode cL_law 89 = .ok (.iconst 1, 1) := by decide +kernel
theorem dL_law_90 : decode cL_law 90 = .ok (.iload 9, 2) := by decide +kernel
theorem dL_law_92 : decode cL_law 92 = .ok (.iconst 4, 1) := by decide +kernel
theorem dL_law_93 : decode cL_law 93 = .ok (.irem, 1) := by decide +kernel
theorem dL_law_94 : decode cL_law 94 = .ok (.iadd, 1) := by decide +kernel
theorem dL_law_95 : decode cL_law 95 = .ok (.istore 13, 2) := by decide +kernel
theorem dL_law_97 : decode cL_law 97 = .ok (.aload_n 1, 1) := by decide +kernel
theorem dL_law_98 : decode cL_law 98 = .ok (.iload 13, 2) := by decide +kernel
theorem dL_law_100 : decode cL_law 100 = .ok (.iload 9, 2) := by decide +kernel
theorem dL_law_102 : decode cL_law 102 = .ok (.bipush 8, 2) := by decide +kernel
theorem dL_law_104 : decode cL_law 104 = .ok (.idiv, 1) := by decide +kernel
theorem dL_law_105 : decode cL_law 105 = .ok (.bipush 81, 2) := by decide +kernel
theorem dL_law_107 : decode cL_law 107 = .ok (.irem, 1) := by decide +kernel
theorem dL_law_108 : decode cL_law 108 = .ok (.bipush 50, 2) := by decide +kernel
theorem dL_law_110 : decode cL_law 110 = .ok (.isub, 1) := by decide +kernel
theorem dL_law_111 : decode cL_law 111 = .ok (.iload 9, 2) := by decide +kernel
theorem dL_law_113 : decode cL_law 113 = .ok (.sipush 1024, 3) := by decide +kernel
theorem dL_law_116 : decode cL_law 116 = .ok (.idiv, 1) := by decide +kernel
theorem dL_law_117 : decode cL_law 117 = .ok (.bipush 10, 2) := by decide +kernel
theorem dL_law_119 : decode cL_law 119 = .ok (.irem, 1) := by decide +kernel
theorem dL_law_120 : decode cL_law 120 = .ok (.invokestatic 123, 3) := by decide +kernel
theorem dL_law_123 : decode cL_law 123 = .ok (.iload 12, 2) := by decide +kernel
theorem dL_law_125 : decode cL_law 125 = .ok (.iload 13, 2) := by decide +kernel
theorem dL_law_127 : decode cL_law 127 = .ok (.iadd, 1) := by decide +kernel
theorem dL_law_128 : decode cL_law 128 = .ok (.i2l, 1) := by decide +kernel
theorem dL_law_129 : decode cL_law 129 = .ok (.lcmp, 1) := by decide +kernel
theorem dL_law_130 : decode cL_law 130 = .ok (.ifCond .ne 7, 3) := by decide +kernel
theorem dL_law_133 : decode cL_law 133 = .ok (.iconst 1, 1) := by decide +kernel
theorem dL_law_134 : decode cL_law 134 = .ok (.goto 4, 3) := by decide +kernel
theorem dL_law_137 : decode cL_law 137 = .ok (.iconst 0, 1) := by decide +kernel
theorem dL_law_138 : decode cL_law 138 = .ok (.istore_n 2, 1) := by decide +kernel
theorem dL_law_139 : decode cL_law 139 = .ok (.goto 704, 3) := by decide +kernel
theorem dL_law_142 : decode cL_law 142 = .ok (.iload 10, 2) := by decide +kernel
theorem dL_law_144 : decode cL_law 144 = .ok (.bipush 7, 2) := by decide +kernel
theorem dL_law_146 : decode cL_law 146 = .ok (.if_icmp .ge 111, 3) := by decide +kernel
theorem dL_law_149 : decode cL_law 149 = .ok (.iload 9, 2) := by decide +kernel
theorem dL_law_151 : decode cL_law 151 = .ok (.sipush 128, 3) := by decide +kernel
theorem dL_law_154 : decode cL_law 154 = .ok (.idiv, 1) := by decide +kernel
theorem dL_law_155 : decode cL_law 155 = .ok (.ldc 143, 2) := by decide +kernel
theorem dL_law_157 : decode cL_law 157 = .ok (.irem, 1) := by decide +kernel
theorem dL_law_158 : decode cL_law 158 = .ok (.sipush 5000, 3) := by decide +kernel
theorem dL_law_161 : decode cL_law 161 = .ok (.isub, 1) := by decide +kernel
theorem dL_law_162 : decode cL_law 162 = .ok (.istore 12, 2) := by decide +kernel
theorem dL_law_164 : decode cL_law 164 = .ok (.iload 9, 2) := by decide +kernel
theorem dL_law_166 : decode cL_law 166 = .ok (.iconst 5, 1) := by decide +kernel
theorem dL_law_167 : decode cL_law 167 = .ok (.irem, 1) := by decide +kernel
theorem dL_law_168 : decode cL_law 168 = .ok (.istore 13, 2) := by decide +kernel
theorem dL_law_170 : decode cL_law 170 = .ok (.aload_n 1, 1) := by decide +kernel
theorem dL_law_171 : decode cL_law 171 = .ok (.iload 11, 2) := by decide +kernel
theorem dL_law_173 : decode cL_law 173 = .ok (.iconst 0, 1) := by decide +kernel
theorem dL_law_174 : decode cL_law 174 = .ok (.invokestatic 81, 3) := by decide +kernel
theorem dL_law_177 : decode cL_law 177 = .ok (.lstore 14, 2) := by decide +kernel
theorem dL_law_179 : decode cL_law 179 = .ok (.aload_n 1, 1) := by decide +kernel
theorem dL_law_180 : decode cL_law 180 = .ok (.iload 11, 2) := by decide +kernel
theorem dL_law_182 : decode cL_law 182 = .ok (.iload 13, 2) := by decide +kernel
theorem dL_law_184 : decode cL_law 184 = .ok (.iload 9, 2) := by decide +kernel
theorem dL_law_186 : decode cL_law 186 = .ok (.bipush 8, 2) := by decide +kernel
theorem dL_law_188 : decode cL_law 188 = .ok (.idiv, 1) := by decide +kernel
theorem dL_law_189 : decode cL_law 189 = .ok (.bipush 10, 2) := by decide +kernel
theorem dL_law_191 : decode cL_law 191 = .ok (.irem, 1) := by decide +kernel
theorem dL_law_192 : decode cL_law 192 = .ok (.iload 9, 2) := by decide +kernel
theorem dL_law_194 : decode cL_law 194 = .ok (.bipush 16, 2) := by decide +kernel
theorem dL_law_196 : decode cL_law 196 = .ok (.idiv, 1) := by decide +kernel
theorem dL_law_197 : decode cL_law 197 = .ok (.bipush 10, 2) := by decide +kernel
theorem dL_law_199 : decode cL_law 199 = .ok (.irem, 1) := by decide +kernel
theorem dL_law_200 : decode cL_law 200 = .ok (.iload 12, 2) := by decide +kernel
theorem dL_law_202 : decode cL_law 202 = .ok (.iload 9, 2) := by decide +kernel
theorem dL_law_204 : decode cL_law 204 = .ok (.bipush 64, 2) := by decide +kernel
theorem dL_law_206 : decode cL_law 206 = .ok (.idiv, 1) := by decide +kernel
theorem dL_law_207 : decode cL_law 207 = .ok (.sipush 1001, 3) := by decide +kernel
theorem dL_law_210 : decode cL_law 210 = .ok (.irem, 1) := by decide +kernel
theorem dL_law_211 : decode cL_law 211 = .ok (.invokestatic 118, 3) := by decide +kernel
theorem dL_law_214 : decode cL_law 214 = .ok (.lconst 0, 1) := by decide +kernel
theorem dL_law_215 : decode cL_law 215 = .ok (.lcmp, 1) := by decide +kernel
theorem dL_law_216 : decode cL_law 216 = .ok (.ifCond .ne 36, 3) := by decide +kernel
theorem dL_law_219 : decode cL_law 219 = .ok (.aload_n 1, 1) := by decide +kernel
theorem dL_law_220 : decode cL_law 220 = .ok (.iload 11, 2) := by decide +kernel
theorem dL_law_222 : decode cL_law 222 = .ok (.iload 13, 2) := by decide +kernel
theorem dL_law_224 : decode cL_law 224 = .ok (.iconst 1, 1) := by decide +kernel
theorem dL_law_225 : decode cL_law 225 = .ok (.invokestatic 88, 3) := by decide +kernel
theorem dL_law_228 : decode cL_law 228 = .ok (.iload 12, 2) := by decide +kernel
theorem dL_law_230 : decode cL_law 230 = .ok (.i2l, 1) := by decide +kernel
theorem dL_law_231 : decode cL_law 231 = .ok (.lcmp, 1) := by decide +kernel
theorem dL_law_232 : decode cL_law 232 = .ok (.ifCond .ne 20, 3) := by decide +kernel
theorem dL_law_235 : decode cL_law 235 = .ok (.aload_n 1, 1) := by decide +kernel
theorem dL_law_236 : decode cL_law 236 = .ok (.iload 11, 2) := by decide +kernel
theorem dL_law_238 : decode cL_law 238 = .ok (.iconst 0, 1) := by decide +kernel
theorem dL_law_239 : decode cL_law 239 = .ok (.invokestatic 81, 3) := by decide +kernel
theorem dL_law_242 : decode cL_law 242 = .ok (.lload 14, 2) := by decide +kernel
theorem dL_law_244 : decode cL_law 244 = .ok (.lcmp, 1) := by decide +kernel
theorem dL_law_245 : decode cL_law 245 = .ok (.ifCond .ne 7, 3) := by decide +kernel
theorem dL_law_248 : decode cL_law 248 = .ok (.iconst 1, 1) := by decide +kernel
theorem dL_law_249 : decode cL_law 249 = .ok (.goto 4, 3) := by decide +kernel
theorem dL_law_252 : decode cL_law 252 = .ok (.iconst 0, 1) := by decide +kernel
theorem dL_law_253 : decode cL_law 253 = .ok (.istore_n 2, 1) := by decide +kernel
theorem dL_law_254 : decode cL_law 254 = .ok (.goto 589, 3) := by decide +kernel
theorem dL_law_257 : decode cL_law 257 = .ok (.iload 10, 2) := by decide +kernel
theorem dL_law_259 : decode cL_law 259 = .ok (.bipush 7, 2) := by decide +kernel
theorem dL_law_261 : decode cL_law 261 = .ok (.if_icmp .ne 179, 3) := by decide +kernel
theorem dL_law_264 : decode cL_law 264 = .ok (.aload_n 1, 1) := by decide +kernel
theorem dL_law_265 : decode cL_law 265 = .ok (.iload 11, 2) := by decide +kernel
theorem dL_law_267 : decode cL_law 267 = .ok (.iconst 0, 1) := by decide +kernel
theorem dL_law_268 : decode cL_law 268 = .ok (.iconst 4, 1) := by decide +kernel
theorem dL_law_269 : decode cL_law 269 = .ok (.invokestatic 88, 3) := by decide +kernel
theorem dL_law_272 : decode cL_law 272 = .ok (.lstore 12, 2) := by decide +kernel
theorem dL_law_274 : decode cL_law 274 = .ok (.aload_n 1, 1) := by decide +kernel
theorem dL_law_275 : decode cL_law 275 = .ok (.iload 11, 2) := by decide +kernel
theorem dL_law_277 : decode cL_law 277 = .ok (.iconst 1, 1) := by decide +kernel
theorem dL_law_278 : decode cL_law 278 = .ok (.invokestatic 81, 3) := by decide +kernel
theorem dL_law_281 : decode cL_law 281 = .ok (.ldc2_w 93, 3) := by decide +kernel
theorem dL_law_284 : decode cL_law 284 = .ok (.lcmp, 1) := by decide +kernel
theorem dL_law_285 : decode cL_law 285 = .ok (.ifCond .ge 19, 3) := by decide +kernel
theorem dL_law_288 : decode cL_law 288 = .ok (.aload_n 1, 1) := by decide +kernel
theorem dL_law_289 : decode cL_law 289 = .ok (.iload 11, 2) := by decide +kernel
theorem dL_law_291 : decode cL_law 291 = .ok (.iconst 2, 1) := by decide +kernel
theorem dL_law_292 : decode cL_law 292 = .ok (.invokestatic 81, 3) := by decide +kernel
theorem dL_law_295 : decode cL_law 295 = .ok (.lconst 0, 1) := by decide +kernel
theorem dL_law_296 : decode cL_law 296 = .ok (.lcmp, 1) := by decide +kernel
theorem dL_law_297 : decode cL_law 297 = .ok (.ifCond .ne 7, 3) := by decide +kernel
theorem dL_law_300 : decode cL_law 300 = .ok (.iconst 1, 1) := by decide +kernel
theorem dL_law_301 : decode cL_law 301 = .ok (.goto 4, 3) := by decide +kernel
theorem dL_law_304 : decode cL_law 304 = .ok (.iconst 0, 1) := by decide +kernel
theorem dL_law_305 : decode cL_law 305 = .ok (.istore 14, 2) := by decide +kernel
theorem dL_law_307 : decode cL_law 307 = .ok (.aload_n 1, 1) := by decide +kernel
theorem dL_law_308 : decode cL_law 308 = .ok (.iconst 0, 1) := by decide +kernel
theorem dL_law_309 : decode cL_law 309 = .ok (.invokestatic 99, 3) := by decide +kernel
theorem dL_law_312 : decode cL_law 312 = .ok (.lstore 15, 2) := by decide +kernel
theorem dL_law_314 : decode cL_law 314 = .ok (.aload_n 1, 1) := by decide +kernel
theorem dL_law_315 : decode cL_law 315 = .ok (.iload 11, 2) := by decide +kernel
theorem dL_law_317 : decode cL_law 317 = .ok (.invokestatic 125, 3) := by decide +kernel
theorem dL_law_320 : decode cL_law 320 = .ok (.lstore 17, 2) := by decide +kernel
theorem dL_law_322 : decode cL_law 322 = .ok (.iload 14, 2) := by decide +kernel
theorem dL_law_324 : decode cL_law 324 = .ok (.ifCond .eq 66, 3) := by decide +kernel
theorem dL_law_327 : decode cL_law 327 = .ok (.lload 17, 2) := by decide +kernel
theorem dL_law_329 : decode cL_law 329 = .ok (.lload 12, 2) := by decide +kernel
theorem dL_law_331 : decode cL_law 331 = .ok (.ldc2_w 144, 3) := by decide +kernel
theorem dL_law_334 : decode cL_law 334 = .ok (.ldiv, 1) := by decide +kernel
theorem dL_law_335 : decode cL_law 335 = .ok (.lcmp, 1) := by decide +kernel
theorem dL_law_336 : decode cL_law 336 = .ok (.ifCond .ne 50, 3) := by decide +kernel
theorem dL_law_339 : decode cL_law 339 = .ok (.aload_n 1, 1) := by decide +kernel
theorem dL_law_340 : decode cL_law 340 = .ok (.iload 11, 2) := by decide +kernel
theorem dL_law_342 : decode cL_law 342 = .ok (.iconst 0, 1) := by decide +kernel
theorem dL_law_343 : decode cL_law 343 = .ok (.iconst 4, 1) := by decide +kernel
theorem dL_law_344 : decode cL_law 344 = .ok (.invokestatic 88, 3) := by decide +kernel
theorem dL_law_347 : decode cL_law 347 = .ok (.lload 12, 2) := by decide +kernel
theorem dL_law_349 : decode cL_law 349 = .ok (.lload 17, 2) := by decide +kernel
theorem dL_law_351 : decode cL_law 351 = .ok (.lsub, 1) := by decide +kernel
theorem dL_law_352 : decode cL_law 352 = .ok (.lcmp, 1) := by decide +kernel
theorem dL_law_353 : decode cL_law 353 = .ok (.ifCond .ne 33, 3) := by decide +kernel
theorem dL_law_356 : decode cL_law 356 = .ok (.aload_n 1, 1) := by decide +kernel
theorem dL_law_357 : decode cL_law 357 = .ok (.iconst 0, 1) := by decide +kernel
theorem dL_law_358 : decode cL_law 358 = .ok (.invokestatic 99, 3) := by decide +kernel
theorem dL_law_361 : decode cL_law 361 = .ok (.lload 15, 2) := by decide +kernel
theorem dL_law_363 : decode cL_law 363 = .ok (.lload 17, 2) := by decide +kernel
theorem dL_law_365 : decode cL_law 365 = .ok (.ladd, 1) := by decide +kernel
theorem dL_law_366 : decode cL_law 366 = .ok (.lcmp, 1) := by decide +kernel
theorem dL_law_367 : decode cL_law 367 = .ok (.ifCond .ne 19, 3) := by decide +kernel
theorem dL_law_370 : decode cL_law 370 = .ok (.aload_n 1, 1) := by decide +kernel
theorem dL_law_371 : decode cL_law 371 = .ok (.iload 11, 2) := by decide +kernel
theorem dL_law_373 : decode cL_law 373 = .ok (.iconst 3, 1) := by decide +kernel
theorem dL_law_374 : decode cL_law 374 = .ok (.invokestatic 81, 3) := by decide +kernel
theorem dL_law_377 : decode cL_law 377 = .ok (.lconst 0, 1) := by decide +kernel
theorem dL_law_378 : decode cL_law 378 = .ok (.lcmp, 1) := by decide +kernel
theorem dL_law_379 : decode cL_law 379 = .ok (.ifCond .ne 7, 3) := by decide +kernel
theorem dL_law_382 : decode cL_law 382 = .ok (.iconst 1, 1) := by decide +kernel
theorem dL_law_383 : decode cL_law 383 = .ok (.goto 21, 3) := by decide +kernel
theorem dL_law_386 : decode cL_law 386 = .ok (.iconst 0, 1) := by decide +kernel
theorem dL_law_387 : decode cL_law 387 = .ok (.goto 17, 3) := by decide +kernel
theorem dL_law_390 : decode cL_law 390 = .ok (.lload 17, 2) := by decide +kernel
theorem dL_law_392 : decode cL_law 392 = .ok (.ldc2_w 33, 3) := by decide +kernel
theorem dL_law_395 : decode cL_law 395 = .ok (.lcmp, 1) := by decide +kernel
theorem dL_law_396 : decode cL_law 396 = .ok (.ifCond .ne 7, 3) := by decide +kernel
theorem dL_law_399 : decode cL_law 399 = .ok (.iconst 1, 1) := by decide +kernel
theorem dL_law_400 : decode cL_law 400 = .ok (.goto 4, 3) := by decide +kernel
theorem dL_law_403 : decode cL_law 403 = .ok (.iconst 0, 1) := by decide +kernel
theorem dL_law_404 : decode cL_law 404 = .ok (.istore_n 2, 1) := by decide +kernel
theorem dL_law_405 : decode cL_law 405 = .ok (.iload_n 2, 1) := by decide +kernel
theorem dL_law_406 : decode cL_law 406 = .ok (.ifCond .eq 29, 3) := by decide +kernel
theorem dL_law_409 : decode cL_law 409 = .ok (.aload_n 1, 1) := by decide +kernel
theorem dL_law_410 : decode cL_law 410 = .ok (.iload 11, 2) := by decide +kernel
theorem dL_law_412 : decode cL_law 412 = .ok (.iconst 1, 1) := by decide +kernel
theorem dL_law_413 : decode cL_law 413 = .ok (.iadd, 1) := by decide +kernel
theorem dL_law_414 : decode cL_law 414 = .ok (.bipush 25, 2) := by decide +kernel
theorem dL_law_416 : decode cL_law 416 = .ok (.irem, 1) := by decide +kernel
theorem dL_law_417 : decode cL_law 417 = .ok (.iload 9, 2) := by decide +kernel
theorem dL_law_419 : decode cL_law 419 = .ok (.iconst 4, 1) := by decide +kernel
theorem dL_law_420 : decode cL_law 420 = .ok (.irem, 1) := by decide +kernel
theorem dL_law_421 : decode cL_law 421 = .ok (.invokestatic 121, 3) := by decide +kernel
theorem dL_law_424 : decode cL_law 424 = .ok (.ldc2_w 93, 3) := by decide +kernel
