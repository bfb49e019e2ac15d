theorem dX6_init_165 : decode cX6_init 165 = .ok (.aload_n 0, 1) := by decide +kernel
theorem dX6_init_166 : decode cX6_init 166 = .ok (.bipush 40, 2) := by decide +kernel
theorem dX6_init_168 : decode cX6_init 168 = .ok (.newarray .int, 2) := by decide +kernel
theorem dX6_init_170 : decode cX6_init 170 = .ok (.putfield 71, 3) := by decide +kernel
theorem dX6_init_173 : decode cX6_init 173 = .ok (.aload_n 0, 1) := by decide +kernel
theorem dX6_init_174 : decode cX6_init 174 = .ok (.ldc2_w 74, 3) := by decide +kernel
theorem dX6_init_177 : decode cX6_init 177 = .ok (.putfield 76, 3) := by decide +kernel
theorem dX6_init_180 : decode cX6_init 180 = .ok (.aload_n 0, 1) := by decide +kernel
theorem dX6_init_181 : decode cX6_init 181 = .ok (.ldc2_w 80, 3) := by decide +kernel
theorem dX6_init_184 : decode cX6_init 184 = .ok (.putfield 82, 3) := by decide +kernel
theorem dX6_init_187 : decode cX6_init 187 = .ok (.aload_n 0, 1) := by decide +kernel
theorem dX6_init_188 : decode cX6_init 188 = .ok (.ldc2_w 85, 3) := by decide +kernel
theorem dX6_init_191 : decode cX6_init 191 = .ok (.putfield 87, 3) := by decide +kernel
theorem dX6_init_194 : decode cX6_init 194 = .ok (.iconst 0, 1) := by decide +kernel
theorem dX6_init_195 : decode cX6_init 195 = .ok (.istore_n 1, 1) := by decide +kernel
theorem dX6_init_196 : decode cX6_init 196 = .ok (.iload_n 1, 1) := by decide +kernel
theorem dX6_init_197 : decode cX6_init 197 = .ok (.bipush 25, 2) := by decide +kernel
theorem dX6_init_199 : decode cX6_init 199 = .ok (.if_icmp .ge 98, 3) := by decide +kernel
theorem dX6_init_202 : decode cX6_init 202 = .ok (.aload_n 0, 1) := by decide +kernel
theorem dX6_init_203 : decode cX6_init 203 = .ok (.getfield 7, 3) := by decide +kernel
theorem dX6_init_206 : decode cX6_init 206 = .ok (.iload_n 1, 1) := by decide +kernel
theorem dX6_init_207 : decode cX6_init 207 = .ok (.bipush 100, 2) := by decide +kernel
theorem dX6_init_209 : decode cX6_init 209 = .ok (.iastore, 1) := by decide +kernel
theorem dX6_init_210 : decode cX6_init 210 = .ok (.aload_n 0, 1) := by decide +kernel
theorem dX6_init_211 : decode cX6_init 211 = .ok (.getfield 19, 3) := by decide +kernel
theorem dX6_init_214 : decode cX6_init 214 = .ok (.iload_n 1, 1) := by decide +kernel
theorem dX6_init_215 : decode cX6_init 215 = .ok (.iconst 2, 1) := by decide +kernel
theorem dX6_init_216 : decode cX6_init 216 = .ok (.iastore, 1) := by decide +kernel
theorem dX6_init_217 : decode cX6_init 217 = .ok (.iconst 0, 1) := by decide +kernel
theorem dX6_init_218 : decode cX6_init 218 = .ok (.istore_n 2, 1) := by decide +kernel
theorem dX6_init_219 : decode cX6_init 219 = .ok (.iload_n 2, 1) := by decide +kernel
theorem dX6_init_220 : decode cX6_init 220 = .ok (.iconst 5, 1) := by decide +kernel
theorem dX6_init_221 : decode cX6_init 221 = .ok (.if_icmp .ge 70, 3) := by decide +kernel
theorem dX6_init_224 : decode cX6_init 224 = .ok (.iconst 5, 1) := by decide +kernel
theorem dX6_init_225 : decode cX6_init 225 = .ok (.iload_n 1, 1) := by decide +kernel
theorem dX6_init_226 : decode cX6_init 226 = .ok (.imul, 1) := by decide +kernel
theorem dX6_init_227 : decode cX6_init 227 = .ok (.iload_n 2, 1) := by decide +kernel
theorem dX6_init_228 : decode cX6_init 228 = .ok (.iadd, 1) := by decide +kernel
theorem dX6_init_229 : decode cX6_init 229 = .ok (.istore_n 3, 1) := by decide +kernel
theorem dX6_init_230 : decode cX6_init 230 = .ok (.aload_n 0, 1) := by decide +kernel
theorem dX6_init_231 : decode cX6_init 231 = .ok (.getfield 28, 3) := by decide +kernel
theorem dX6_init_234 : decode cX6_init 234 = .ok (.iload_n 3, 1) := by decide +kernel
theorem dX6_init_235 : decode cX6_init 235 = .ok (.iconst 5, 1) := by decide +kernel
theorem dX6_init_236 : decode cX6_init 236 = .ok (.iastore, 1) := by decide +kernel
theorem dX6_init_237 : decode cX6_init 237 = .ok (.aload_n 0, 1) := by decide +kernel
theorem dX6_init_238 : decode cX6_init 238 = .ok (.getfield 31, 3) := by decide +kernel
theorem dX6_init_241 : decode cX6_init 241 = .ok (.iload_n 3, 1) := by decide +kernel
theorem dX6_init_242 : decode cX6_init 242 = .ok (.iload_n 2, 1) := by decide +kernel
theorem dX6_init_243 : decode cX6_init 243 = .ok (.iconst 2, 1) := by decide +kernel
theorem dX6_init_244 : decode cX6_init 244 = .ok (.if_icmp .ne 7, 3) := by decide +kernel
theorem dX6_init_247 : decode cX6_init 247 = .ok (.iconst 3, 1) := by decide +kernel
theorem dX6_init_248 : decode cX6_init 248 = .ok (.goto 18, 3) := by decide +kernel
theorem dX6_init_251 : decode cX6_init 251 = .ok (.iload_n 2, 1) := by decide +kernel
theorem dX6_init_252 : decode cX6_init 252 = .ok (.iconst 1, 1) := by decide +kernel
theorem dX6_init_253 : decode cX6_init 253 = .ok (.if_icmp .eq 8, 3) := by decide +kernel
theorem dX6_init_256 : decode cX6_init 256 = .ok (.iload_n 2, 1) := by decide +kernel
theorem dX6_init_257 : decode cX6_init 257 = .ok (.iconst 3, 1) := by decide +kernel
theorem dX6_init_258 : decode cX6_init 258 = .ok (.if_icmp .ne 7, 3) := by decide +kernel
theorem dX6_init_261 : decode cX6_init 261 = .ok (.iconst 2, 1) := by decide +kernel
theorem dX6_init_262 : decode cX6_init 262 = .ok (.goto 4, 3) := by decide +kernel
theorem dX6_init_265 : decode cX6_init 265 = .ok (.iconst 0, 1) := by decide +kernel
theorem dX6_init_266 : decode cX6_init 266 = .ok (.iastore, 1) := by decide +kernel
theorem dX6_init_267 : decode cX6_init 267 = .ok (.aload_n 0, 1) := by decide +kernel
theorem dX6_init_268 : decode cX6_init 268 = .ok (.getfield 34, 3) := by decide +kernel
theorem dX6_init_271 : decode cX6_init 271 = .ok (.iload_n 3, 1) := by decide +kernel
theorem dX6_init_272 : decode cX6_init 272 = .ok (.sipush (-1000), 3) := by decide +kernel
theorem dX6_init_275 : decode cX6_init 275 = .ok (.iastore, 1) := by decide +kernel
theorem dX6_init_276 : decode cX6_init 276 = .ok (.aload_n 0, 1) := by decide +kernel
theorem dX6_init_277 : decode cX6_init 277 = .ok (.getfield 37, 3) := by decide +kernel
theorem dX6_init_280 : decode cX6_init 280 = .ok (.iload_n 3, 1) := by decide +kernel
theorem dX6_init_281 : decode cX6_init 281 = .ok (.sipush 400, 3) := by decide +kernel
theorem dX6_init_284 : decode cX6_init 284 = .ok (.iastore, 1) := by decide +kernel
theorem dX6_init_285 : decode cX6_init 285 = .ok (.iinc 2 1, 3) := by decide +kernel
theorem dX6_init_288 : decode cX6_init 288 = .ok (.goto (-69), 3) := by decide +kernel
theorem dX6_init_291 : decode cX6_init 291 = .ok (.iinc 1 1, 3) := by decide +kernel
theorem dX6_init_294 : decode cX6_init 294 = .ok (.goto (-98), 3) := by decide +kernel
theorem dX6_init_297 : decode cX6_init 297 = .ok (.return_, 1) := by decide +kernel
theorem dX6_thrown_0 : decode cX6_thrown 0 = .ok (.aload_n 0, 1) := by decide +kernel
theorem dX6_thrown_1 : decode cX6_thrown 1 = .ok (.getfield 90, 3) := by decide +kernel
theorem dX6_thrown_4 : decode cX6_thrown 4 = .ok (.ireturn, 1) := by decide +kernel
theorem dX6_refused_0 : decode cX6_refused 0 = .ok (.aload_n 0, 1) := by decide +kernel
theorem dX6_refused_1 : decode cX6_refused 1 = .ok (.iload_n 1, 1) := by decide +kernel
theorem dX6_refused_2 : decode cX6_refused 2 = .ok (.putfield 90, 3) := by decide +kernel
theorem dX6_refused_5 : decode cX6_refused 5 = .ok (.iload_n 1, 1) := by decide +kernel
theorem dX6_refused_6 : decode cX6_refused 6 = .ok (.ifCond .eq 7, 3) := by decide +kernel
theorem dX6_refused_9 : decode cX6_refused 9 = .ok (.iconst 1, 1) := by decide +kernel
theorem dX6_refused_10 : decode cX6_refused 10 = .ok (.goto 4, 3) := by decide +kernel
theorem dX6_refused_13 : decode cX6_refused 13 = .ok (.iconst 0, 1) := by decide +kernel
theorem dX6_refused_14 : decode cX6_refused 14 = .ok (.ireturn, 1) := by decide +kernel
theorem dX6_within_0 : decode cX6_within 0 = .ok (.iload_n 0, 1) := by decide +kernel
theorem dX6_within_1 : decode cX6_within 1 = .ok (.iload_n 1, 1) := by decide +kernel
theorem dX6_within_2 : decode cX6_within 2 = .ok (.if_icmp .lt 12, 3) := by decide +kernel
theorem dX6_within_5 : decode cX6_within 5 = .ok (.iload_n 0, 1) := by decide +kernel
theorem dX6_within_6 : decode cX6_within 6 = .ok (.iload_n 2, 1) := by decide +kernel
theorem dX6_within_7 : decode cX6_within 7 = .ok (.if_icmp .gt 7, 3) := by decide +kernel
theorem dX6_within_10 : decode cX6_within 10 = .ok (.iconst 1, 1) := by decide +kernel
theorem dX6_within_11 : decode cX6_within 11 = .ok (.goto 4, 3) := by decide +kernel
theorem dX6_within_14 : decode cX6_within 14 = .ok (.iconst 0, 1) := by decide +kernel
theorem dX6_within_15 : decode cX6_within 15 = .ok (.ireturn, 1) := by decide +kernel
set_option maxRecDepth 20000 in
theorem ggX6_isCell_X6_within : GoodIn wsX6_isCell wsX6_within := goodIn_r _ [4] (by decide +kernel) (by decide +kernel)
set_option maxRecDepth 20000 in
theorem gX6_isCell_X6_within : GoodIn wsX6_isCell (va_wsS RX6 94 yX6_within wsX6_within) := goodIn_app (goodIn_of _ (by decide +kernel)) ggX6_isCell_X6_within
theorem dX6_isCell_0 : decode cX6_isCell 0 = .ok (.iload_n 0, 1) := by decide +kernel
theorem dX6_isCell_1 : decode cX6_isCell 1 = .ok (.iconst 0, 1) := by decide +kernel
theorem dX6_isCell_2 : decode cX6_isCell 2 = .ok (.bipush 24, 2) := by decide +kernel
theorem dX6_isCell_4 : decode cX6_isCell 4 = .ok (.invokestatic 94, 3) := by decide +kernel
theorem dX6_isCell_7 : decode cX6_isCell 7 = .ok (.ireturn, 1) := by decide +kernel
theorem dX6_lesser_0 : decode cX6_lesser 0 = .ok (.iload_n 0, 1) := by decide +kernel
theorem dX6_lesser_1 : decode cX6_lesser 1 = .ok (.iload_n 1, 1) := by decide +kernel
theorem dX6_lesser_2 : decode cX6_lesser 2 = .ok (.if_icmp .ge 7, 3) := by decide +kernel
theorem dX6_lesser_5 : decode cX6_lesser 5 = .ok (.iload_n 0, 1) := by decide +kernel
theorem dX6_lesser_6 : decode cX6_lesser 6 = .ok (.goto 4, 3) := by decide +kernel
theorem dX6_lesser_9 : decode cX6_lesser 9 = .ok (.iload_n 1, 1) := by decide +kernel
theorem dX6_lesser_10 : decode cX6_lesser 10 = .ok (.ireturn, 1) := by decide +kernel
theorem dX6_greater_0 : decode cX6_greater 0 = .ok (.iload_n 0, 1) := by decide +kernel
theorem dX6_greater_1 : decode cX6_greater 1 = .ok (.iload_n 1, 1) := by decide +kernel
theorem dX6_greater_2 : decode cX6_greater 2 = .ok (.if_icmp .le 7, 3) := by decide +kernel
theorem dX6_greater_5 : decode cX6_greater 5 = .ok (.iload_n 0, 1) := by decide +kernel
theorem dX6_greater_6 : decode cX6_greater 6 = .ok (.goto 4, 3) := by decide +kernel
theorem dX6_greater_9 : decode cX6_greater 9 = .ok (.iload_n 1, 1) := by decide +kernel
theorem dX6_greater_10 : decode cX6_greater 10 = .ok (.ireturn, 1) := by decide +kernel
theorem dX6_degreesOf_0 : decode cX6_degreesOf 0 = .ok (.sipush 1000, 3) := by decide +kernel
theorem dX6_degreesOf_3 : decode cX6_degreesOf 3 = .ok (.aload_n 0, 1) := by decide +kernel
theorem dX6_degreesOf_4 : decode cX6_degreesOf 4 = .ok (.getfield 28, 3) := by decide +kernel
theorem dX6_degreesOf_7 : decode cX6_degreesOf 7 = .ok (.iload_n 1, 1) := by decide +kernel
theorem dX6_degreesOf_8 : decode cX6_degreesOf 8 = .ok (.iaload, 1) := by decide +kernel
theorem dX6_degreesOf_9 : decode cX6_degreesOf 9 = .ok (.aload_n 0, 1) := by decide +kernel
theorem dX6_degreesOf_10 : decode cX6_degreesOf 10 = .ok (.getfield 31, 3) := by decide +kernel
theorem dX6_degreesOf_13 : decode cX6_degreesOf 13 = .ok (.iload_n 1, 1) := by decide +kernel
theorem dX6_degreesOf_14 : decode cX6_degreesOf 14 = .ok (.iaload, 1) := by decide +kernel
theorem dX6_degreesOf_15 : decode cX6_degreesOf 15 = .ok (.iadd, 1) := by decide +kernel
theorem dX6_degreesOf_16 : decode cX6_degreesOf 16 = .ok (.imul, 1) := by decide +kernel
theorem dX6_degreesOf_17 : decode cX6_degreesOf 17 = .ok (.istore_n 2, 1) := by decide +kernel
theorem dX6_degreesOf_18 : decode cX6_degreesOf 18 = .ok (.aload_n 0, 1) := by decide +kernel
theorem dX6_degreesOf_19 : decode cX6_degreesOf 19 = .ok (.getfield 34, 3) := by decide +kernel
theorem dX6_degreesOf_22 : decode cX6_degreesOf 22 = .ok (.iload_n 1, 1) := by decide +kernel
theorem dX6_degreesOf_23 : decode cX6_degreesOf 23 = .ok (.iaload, 1) := by decide +kernel
theorem dX6_degreesOf_24 : decode cX6_degreesOf 24 = .ok (.ifCond .ge 13, 3) := by decide +kernel
theorem dX6_degreesOf_27 : decode cX6_degreesOf 27 = .ok (.aload_n 0, 1) := by decide +kernel
theorem dX6_degreesOf_28 : decode cX6_degreesOf 28 = .ok (.getfield 34, 3) := by decide +kernel
theorem dX6_degreesOf_31 : decode cX6_degreesOf 31 = .ok (.iload_n 1, 1) := by decide +kernel
theorem dX6_degreesOf_32 : decode cX6_degreesOf 32 = .ok (.iaload, 1) := by decide +kernel
theorem dX6_degreesOf_33 : decode cX6_degreesOf 33 = .ok (.bipush 100, 2) := by decide +kernel
theorem dX6_degreesOf_35 : decode cX6_degreesOf 35 = .ok (.idiv, 1) := by decide +kernel
theorem dX6_degreesOf_36 : decode cX6_degreesOf 36 = .ok (.ireturn, 1) := by decide +kernel
theorem dX6_degreesOf_37 : decode cX6_degreesOf 37 = .ok (.aload_n 0, 1) := by decide +kernel
theorem dX6_degreesOf_38 : decode cX6_degreesOf 38 = .ok (.getfield 34, 3) := by decide +kernel
theorem dX6_degreesOf_41 : decode cX6_degreesOf 41 = .ok (.iload_n 1, 1) := by decide +kernel
theorem dX6_degreesOf_42 : decode cX6_degreesOf 42 = .ok (.iaload, 1) := by decide +kernel
theorem dX6_degreesOf_43 : decode cX6_degreesOf 43 = .ok (.iload_n 2, 1) := by decide +kernel
theorem dX6_degreesOf_44 : decode cX6_degreesOf 44 = .ok (.if_icmp .le 17, 3) := by decide +kernel
theorem dX6_degreesOf_47 : decode cX6_degreesOf 47 = .ok (.aload_n 0, 1) := by decide +kernel
theorem dX6_degreesOf_48 : decode cX6_degreesOf 48 = .ok (.getfield 34, 3) := by decide +kernel
theorem dX6_degreesOf_51 : decode cX6_degreesOf 51 = .ok (.iload_n 1, 1) := by decide +kernel
theorem dX6_degreesOf_52 : decode cX6_degreesOf 52 = .ok (.iaload, 1) := by decide +kernel
theorem dX6_degreesOf_53 : decode cX6_degreesOf 53 = .ok (.iload_n 2, 1) := by decide +kernel
theorem dX6_degreesOf_54 : decode cX6_degreesOf 54 = .ok (.isub, 1) := by decide +kernel
theorem dX6_degreesOf_55 : decode cX6_degreesOf 55 = .ok (.bipush 100, 2) := by decide +kernel
theorem dX6_degreesOf_57 : decode cX6_degreesOf 57 = .ok (.idiv, 1) := by decide +kernel
theorem dX6_degreesOf_58 : decode cX6_degreesOf 58 = .ok (.goto 4, 3) := by decide +kernel
theorem dX6_degreesOf_61 : decode cX6_degreesOf 61 = .ok (.iconst 0, 1) := by decide +kernel
theorem dX6_degreesOf_62 : decode cX6_degreesOf 62 = .ok (.ireturn, 1) := by decide +kernel
set_option maxRecDepth 20000 in
theorem ggX6_melted_X6_lesser : GoodIn wsX6_melted wsX6_lesser := goodIn_r _ [7] (by decide +kernel) (by decide +kernel)
set_option maxRecDepth 20000 in
theorem gX6_melted_X6_lesser : GoodIn wsX6_melted (va_wsS RX6 98 yX6_lesser wsX6_lesser) := goodIn_app (goodIn_of _ (by decide +kernel)) ggX6_melted_X6_lesser
theorem dX6_melted_0 : decode cX6_melted 0 = .ok (.aload_n 0, 1) := by decide +kernel
theorem dX6_melted_1 : decode cX6_melted 1 = .ok (.getfield 34, 3) := by decide +kernel
theorem dX6_melted_4 : decode cX6_melted 4 = .ok (.iload_n 1, 1) := by decide +kernel
theorem dX6_melted_5 : decode cX6_melted 5 = .ok (.iaload, 1) := by decide +kernel
theorem dX6_melted_6 : decode cX6_melted 6 = .ok (.sipush 1000, 3) := by decide +kernel
theorem dX6_melted_9 : decode cX6_melted 9 = .ok (.if_icmp .ge 7, 3) := by decide +kernel
theorem dX6_melted_12 : decode cX6_melted 12 = .ok (.iconst 0, 1) := by decide +kernel
theorem dX6_melted_13 : decode cX6_melted 13 = .ok (.goto 29, 3) := by decide +kernel
theorem dX6_melted_16 : decode cX6_melted 16 = .ok (.aload_n 0, 1) := by decide +kernel
theorem dX6_melted_17 : decode cX6_melted 17 = .ok (.getfield 28, 3) := by decide +kernel
theorem dX6_melted_20 : decode cX6_melted 20 = .ok (.iload_n 1, 1) := by decide +kernel
theorem dX6_melted_21 : decode cX6_melted 21 = .ok (.iaload, 1) := by decide +kernel
theorem dX6_melted_22 : decode cX6_melted 22 = .ok (.aload_n 0, 1) := by decide +kernel
theorem dX6_melted_23 : decode cX6_melted 23 = .ok (.getfield 31, 3) := by decide +kernel
theorem dX6_melted_26 : decode cX6_melted 26 = .ok (.iload_n 1, 1) := by decide +kernel
theorem dX6_melted_27 : decode cX6_melted 27 = .ok (.iaload, 1) := by decide +kernel
theorem dX6_melted_28 : decode cX6_melted 28 = .ok (.iadd, 1) := by decide +kernel
theorem dX6_melted_29 : decode cX6_melted 29 = .ok (.aload_n 0, 1) := by decide +kernel
theorem dX6_melted_30 : decode cX6_melted 30 = .ok (.getfield 34, 3) := by decide +kernel
theorem dX6_melted_33 : decode cX6_melted 33 = .ok (.iload_n 1, 1) := by decide +kernel
theorem dX6_melted_34 : decode cX6_melted 34 = .ok (.iaload, 1) := by decide +kernel
theorem dX6_melted_35 : decode cX6_melted 35 = .ok (.sipush 1000, 3) := by decide +kernel
theorem dX6_melted_38 : decode cX6_melted 38 = .ok (.idiv, 1) := by decide +kernel
theorem dX6_melted_39 : decode cX6_melted 39 = .ok (.invokestatic 98, 3) := by decide +kernel
theorem dX6_melted_42 : decode cX6_melted 42 = .ok (.ireturn, 1) := by decide +kernel
theorem dX6_isLake_0 : decode cX6_isLake 0 = .ok (.aload_n 0, 1) := by decide +kernel
theorem dX6_isLake_1 : decode cX6_isLake 1 = .ok (.getfield 13, 3) := by decide +kernel
theorem dX6_isLake_4 : decode cX6_isLake 4 = .ok (.iload_n 1, 1) := by decide +kernel
theorem dX6_isLake_5 : decode cX6_isLake 5 = .ok (.iaload, 1) := by decide +kernel
theorem dX6_isLake_6 : decode cX6_isLake 6 = .ok (.iconst 2, 1) := by decide +kernel
theorem dX6_isLake_7 : decode cX6_isLake 7 = .ok (.if_icmp .le 7, 3) := by decide +kernel
theorem dX6_isLake_10 : decode cX6_isLake 10 = .ok (.iconst 1, 1) := by decide +kernel
theorem dX6_isLake_11 : decode cX6_isLake 11 = .ok (.goto 4, 3) := by decide +kernel
theorem dX6_isLake_14 : decode cX6_isLake 14 = .ok (.iconst 0, 1) := by decide +kernel
theorem dX6_isLake_15 : decode cX6_isLake 15 = .ok (.ireturn, 1) := by decide +kernel
theorem dX6_beside_0 : decode cX6_beside 0 = .ok (.iload_n 1, 1) := by decide +kernel
theorem dX6_beside_1 : decode cX6_beside 1 = .ok (.ifCond .ne 16, 3) := by decide +kernel
theorem dX6_beside_4 : decode cX6_beside 4 = .ok (.iload_n 0, 1) := by decide +kernel
theorem dX6_beside_5 : decode cX6_beside 5 = .ok (.iconst 5, 1) := by decide +kernel
theorem dX6_beside_6 : decode cX6_beside 6 = .ok (.if_icmp .ge 7, 3) := by decide +kernel
theorem dX6_beside_9 : decode cX6_beside 9 = .ok (.iconst (-1), 1) := by decide +kernel
theorem dX6_beside_10 : decode cX6_beside 10 = .ok (.goto 6, 3) := by decide +kernel
theorem dX6_beside_13 : decode cX6_beside 13 = .ok (.iload_n 0, 1) := by decide +kernel
theorem dX6_beside_14 : decode cX6_beside 14 = .ok (.iconst 5, 1) := by decide +kernel
theorem dX6_beside_15 : decode cX6_beside 15 = .ok (.isub, 1) := by decide +kernel
theorem dX6_beside_16 : decode cX6_beside 16 = .ok (.ireturn, 1) := by decide +kernel
theorem dX6_beside_17 : decode cX6_beside 17 = .ok (.iload_n 1, 1) := by decide +kernel
theorem dX6_beside_18 : decode cX6_beside 18 = .ok (.iconst 1, 1) := by decide +kernel
theorem dX6_beside_19 : decode cX6_beside 19 = .ok (.if_icmp .ne 17, 3) := by decide +kernel
theorem dX6_beside_22 : decode cX6_beside 22 = .ok (.iload_n 0, 1) := by decide +kernel
theorem dX6_beside_23 : decode cX6_beside 23 = .ok (.iconst 5, 1) := by decide +kernel
theorem dX6_beside_24 : decode cX6_beside 24 = .ok (.irem, 1) := by decide +kernel
theorem dX6_beside_25 : decode cX6_beside 25 = .ok (.ifCond .ne 7, 3) := by decide +kernel
theorem dX6_beside_28 : decode cX6_beside 28 = .ok (.iconst (-1), 1) := by decide +kernel
theorem dX6_beside_29 : decode cX6_beside 29 = .ok (.goto 6, 3) := by decide +kernel
theorem dX6_beside_32 : decode cX6_beside 32 = .ok (.iload_n 0, 1) := by decide +kernel
theorem dX6_beside_33 : decode cX6_beside 33 = .ok (.iconst 1, 1) := by decide +kernel
theorem dX6_beside_34 : decode cX6_beside 34 = .ok (.isub, 1) := by decide +kernel
theorem dX6_beside_35 : decode cX6_beside 35 = .ok (.ireturn, 1) := by decide +kernel
theorem dX6_beside_36 : decode cX6_beside 36 = .ok (.iload_n 1, 1) := by decide +kernel
theorem dX6_beside_37 : decode cX6_beside 37 = .ok (.iconst 2, 1) := by decide +kernel
theorem dX6_beside_38 : decode cX6_beside 38 = .ok (.if_icmp .ne 18, 3) := by decide +kernel
theorem dX6_beside_41 : decode cX6_beside 41 = .ok (.iload_n 0, 1) := by decide +kernel
theorem dX6_beside_42 : decode cX6_beside 42 = .ok (.iconst 5, 1) := by decide +kernel
theorem dX6_beside_43 : decode cX6_beside 43 = .ok (.irem, 1) := by decide +kernel
theorem dX6_beside_44 : decode cX6_beside 44 = .ok (.iconst 4, 1) := by decide +kernel
theorem dX6_beside_45 : decode cX6_beside 45 = .ok (.if_icmp .ne 7, 3) := by decide +kernel
theorem dX6_beside_48 : decode cX6_beside 48 = .ok (.iconst (-1), 1) := by decide +kernel
theorem dX6_beside_49 : decode cX6_beside 49 = .ok (.goto 6, 3) := by decide +kernel
theorem dX6_beside_52 : decode cX6_beside 52 = .ok (.iload_n 0, 1) := by decide +kernel
theorem dX6_beside_53 : decode cX6_beside 53 = .ok (.iconst 1, 1) := by decide +kernel
theorem dX6_beside_54 : decode cX6_beside 54 = .ok (.iadd, 1) := by decide +kernel
theorem dX6_beside_55 : decode cX6_beside 55 = .ok (.ireturn, 1) := by decide +kernel
theorem dX6_beside_56 : decode cX6_beside 56 = .ok (.iload_n 0, 1) := by decide +kernel
theorem dX6_beside_57 : decode cX6_beside 57 = .ok (.bipush 19, 2) := by decide +kernel
theorem dX6_beside_59 : decode cX6_beside 59 = .ok (.if_icmp .le 7, 3) := by decide +kernel
theorem dX6_beside_62 : decode cX6_beside 62 = .ok (.iconst (-1), 1) := by decide +kernel
theorem dX6_beside_63 : decode cX6_beside 63 = .ok (.goto 6, 3) := by decide +kernel
theorem dX6_beside_66 : decode cX6_beside 66 = .ok (.iload_n 0, 1) := by decide +kernel
theorem dX6_beside_67 : decode cX6_beside 67 = .ok (.iconst 5, 1) := by decide +kernel
theorem dX6_beside_68 : decode cX6_beside 68 = .ok (.iadd, 1) := by decide +kernel
theorem dX6_beside_69 : decode cX6_beside 69 = .ok (.ireturn, 1) := by decide +kernel
set_option maxRecDepth 20000 in
theorem ggX6_ground_X6_isCell : GoodIn wsX6_ground wsX6_isCell := goodIn_r _ [11, 12, 13, 10, 14] (by decide +kernel) (by decide +kernel)
set_option maxRecDepth 20000 in
theorem gX6_ground_X6_isCell : GoodIn wsX6_ground (va_wsS RX6 102 yX6_isCell wsX6_isCell) := goodIn_app (goodIn_of _ (by decide +kernel)) ggX6_ground_X6_isCell
set_option maxRecDepth 20000 in
theorem ggX6_ground_X6_within : GoodIn wsX6_ground wsX6_within := goodIn_r _ [14] (by decide +kernel) (by decide +kernel)
set_option maxRecDepth 20000 in
theorem gX6_ground_X6_within : GoodIn wsX6_ground (va_wsS RX6 94 yX6_within wsX6_within) := goodIn_app (goodIn_of _ (by decide +kernel)) ggX6_ground_X6_within
set_option maxRecDepth 20000 in
theorem ggX6_ground_X6_refused : GoodIn wsX6_ground wsX6_refused := goodIn_r _ [18, 19, 20, 21, 22, 23, 24, 25, 26, 27, 28, 29, 30, 31, 32, 33, 34, 35, 36, 37, 38, 39, 40, 41, 42, 43, 44, 45, 46, 47, 48, 49, 50, 51] (by decide +kernel) (by decide +kernel)
set_option maxRecDepth 20000 in
theorem gX6_ground_X6_refused : GoodIn wsX6_ground (wsV RX6 106 RX6 yX6_refused wsX6_refused) := goodIn_app (goodIn_of _ (by decide +kernel)) ggX6_ground_X6_refused
theorem dX6_ground_0 : decode cX6_ground 0 = .ok (.iload_n 1, 1) := by decide +kernel
theorem dX6_ground_1 : decode cX6_ground 1 = .ok (.invokestatic 102, 3) := by decide +kernel
theorem dX6_ground_4 : decode cX6_ground 4 = .ok (.ifCond .eq 16, 3) := by decide +kernel
theorem dX6_ground_7 : decode cX6_ground 7 = .ok (.iload_n 2, 1) := by decide +kernel
theorem dX6_ground_8 : decode cX6_ground 8 = .ok (.iconst 0, 1) := by decide +kernel
theorem dX6_ground_9 : decode cX6_ground 9 = .ok (.iconst 4, 1) := by decide +kernel
theorem dX6_ground_10 : decode cX6_ground 10 = .ok (.invokestatic 94, 3) := by decide +kernel
theorem dX6_ground_13 : decode cX6_ground 13 = .ok (.ifCond .eq 7, 3) := by decide +kernel
theorem dX6_ground_16 : decode cX6_ground 16 = .ok (.iconst 1, 1) := by decide +kernel
theorem dX6_ground_17 : decode cX6_ground 17 = .ok (.goto 4, 3) := by decide +kernel
theorem dX6_ground_20 : decode cX6_ground 20 = .ok (.iconst 0, 1) := by decide +kernel
theorem dX6_ground_21 : decode cX6_ground 21 = .ok (.istore 7, 2) := by decide +kernel
theorem dX6_ground_23 : decode cX6_ground 23 = .ok (.iload_n 3, 1) := by decide +kernel
theorem dX6_ground_24 : decode cX6_ground 24 = .ok (.iconst 0, 1) := by decide +kernel
theorem dX6_ground_25 : decode cX6_ground 25 = .ok (.bipush 9, 2) := by decide +kernel
theorem dX6_ground_27 : decode cX6_ground 27 = .ok (.invokestatic 94, 3) := by decide +kernel
theorem dX6_ground_30 : decode cX6_ground 30 = .ok (.ifCond .eq 44, 3) := by decide +kernel
theorem dX6_ground_33 : decode cX6_ground 33 = .ok (.iload 4, 2) := by decide +kernel
theorem dX6_ground_35 : decode cX6_ground 35 = .ok (.iconst 0, 1) := by decide +kernel
theorem dX6_ground_36 : decode cX6_ground 36 = .ok (.bipush 9, 2) := by decide +kernel
theorem dX6_ground_38 : decode cX6_ground 38 = .ok (.invokestatic 94, 3) := by decide +kernel
theorem dX6_ground_41 : decode cX6_ground 41 = .ok (.ifCond .eq 33, 3) := by decide +kernel
theorem dX6_ground_44 : decode cX6_ground 44 = .ok (.iload 5, 2) := by decide +kernel
theorem dX6_ground_46 : decode cX6_ground 46 = .ok (.sipush (-5000), 3) := by decide +kernel
theorem dX6_ground_49 : decode cX6_ground 49 = .ok (.sipush 30000, 3) := by decide +kernel
theorem dX6_ground_52 : decode cX6_ground 52 = .ok (.invokestatic 94, 3) := by decide +kernel
theorem dX6_ground_55 : decode cX6_ground 55 = .ok (.ifCond .eq 19, 3) := by decide +kernel
theorem dX6_ground_58 : decode cX6_ground 58 = .ok (.iload 6, 2) := by decide +kernel
theorem dX6_ground_60 : decode cX6_ground 60 = .ok (.iconst 0, 1) := by decide +kernel
theorem dX6_ground_61 : decode cX6_ground 61 = .ok (.sipush 1000, 3) := by decide +kernel
theorem dX6_ground_64 : decode cX6_ground 64 = .ok (.invokestatic 94, 3) := by decide +kernel
theorem dX6_ground_67 : decode cX6_ground 67 = .ok (.ifCond .eq 7, 3) := by decide +kernel
theorem dX6_ground_70 : decode cX6_ground 70 = .ok (.iconst 1, 1) := by decide +kernel
theorem dX6_ground_71 : decode cX6_ground 71 = .ok (.goto 4, 3) := by decide +kernel
theorem dX6_ground_74 : decode cX6_ground 74 = .ok (.iconst 0, 1) := by decide +kernel
theorem dX6_ground_75 : decode cX6_ground 75 = .ok (.istore 8, 2) := by decide +kernel
theorem dX6_ground_77 : decode cX6_ground 77 = .ok (.aload_n 0, 1) := by decide +kernel
theorem dX6_ground_78 : decode cX6_ground 78 = .ok (.iload 7, 2) := by decide +kernel
theorem dX6_ground_80 : decode cX6_ground 80 = .ok (.ifCond .ne 7, 3) := by decide +kernel
theorem dX6_ground_83 : decode cX6_ground 83 = .ok (.iconst 1, 1) := by decide +kernel
theorem dX6_ground_84 : decode cX6_ground 84 = .ok (.goto 13, 3) := by decide +kernel
theorem dX6_ground_87 : decode cX6_ground 87 = .ok (.iload 8, 2) := by decide +kernel
theorem dX6_ground_89 : decode cX6_ground 89 = .ok (.ifCond .ne 7, 3) := by decide +kernel
theorem dX6_ground_92 : decode cX6_ground 92 = .ok (.iconst 2, 1) := by decide +kernel
theorem dX6_ground_93 : decode cX6_ground 93 = .ok (.goto 4, 3) := by decide +kernel
theorem dX6_ground_96 : decode cX6_ground 96 = .ok (.iconst 0, 1) := by decide +kernel
theorem dX6_ground_97 : decode cX6_ground 97 = .ok (.invokevirtual 106, 3) := by decide +kernel
theorem dX6_ground_100 : decode cX6_ground 100 = .ok (.ifCond .eq 4, 3) := by decide +kernel
theorem dX6_ground_103 : decode cX6_ground 103 = .ok (.return_, 1) := by decide +kernel
theorem dX6_ground_104 : decode cX6_ground 104 = .ok (.iconst 5, 1) := by decide +kernel
theorem dX6_ground_105 : decode cX6_ground 105 = .ok (.iload_n 1, 1) := by decide +kernel
theorem dX6_ground_106 : decode cX6_ground 106 = .ok (.imul, 1) := by decide +kernel
theorem dX6_ground_107 : decode cX6_ground 107 = .ok (.iload_n 2, 1) := by decide +kernel
theorem dX6_ground_108 : decode cX6_ground 108 = .ok (.iadd, 1) := by decide +kernel
theorem dX6_ground_109 : decode cX6_ground 109 = .ok (.istore 9, 2) := by decide +kernel
theorem dX6_ground_111 : decode cX6_ground 111 = .ok (.aload_n 0, 1) := by decide +kernel
theorem dX6_ground_112 : decode cX6_ground 112 = .ok (.dup, 1) := by decide +kernel
theorem dX6_ground_113 : decode cX6_ground 113 = .ok (.getfield 76, 3) := by decide +kernel
theorem dX6_ground_116 : decode cX6_ground 116 = .ok (.iload 5, 2) := by decide +kernel
theorem dX6_ground_118 : decode cX6_ground 118 = .ok (.aload_n 0, 1) := by decide +kernel
theorem dX6_ground_119 : decode cX6_ground 119 = .ok (.getfield 34, 3) := by decide +kernel
theorem dX6_ground_122 : decode cX6_ground 122 = .ok (.iload 9, 2) := by decide +kernel
theorem dX6_ground_124 : decode cX6_ground 124 = .ok (.iaload, 1) := by decide +kernel
theorem dX6_ground_125 : decode cX6_ground 125 = .ok (.isub, 1) := by decide +kernel
theorem dX6_ground_126 : decode cX6_ground 126 = .ok (.i2l, 1) := by decide +kernel
theorem dX6_ground_127 : decode cX6_ground 127 = .ok (.ladd, 1) := by decide +kernel
theorem dX6_ground_128 : decode cX6_ground 128 = .ok (.putfield 76, 3) := by decide +kernel
theorem dX6_ground_131 : decode cX6_ground 131 = .ok (.aload_n 0, 1) := by decide +kernel
theorem dX6_ground_132 : decode cX6_ground 132 = .ok (.dup, 1) := by decide +kernel
theorem dX6_ground_133 : decode cX6_ground 133 = .ok (.getfield 82, 3) := by decide +kernel
theorem dX6_ground_136 : decode cX6_ground 136 = .ok (.iload_n 3, 1) := by decide +kernel
theorem dX6_ground_137 : decode cX6_ground 137 = .ok (.iload 4, 2) := by decide +kernel
theorem dX6_ground_139 : decode cX6_ground 139 = .ok (.iadd, 1) := by decide +kernel
theorem dX6_ground_140 : decode cX6_ground 140 = .ok (.aload_n 0, 1) := by decide +kernel
theorem dX6_ground_141 : decode cX6_ground 141 = .ok (.getfield 28, 3) := by decide +kernel
theorem dX6_ground_144 : decode cX6_ground 144 = .ok (.iload 9, 2) := by decide +kernel
theorem dX6_ground_146 : decode cX6_ground 146 = .ok (.iaload, 1) := by decide +kernel
theorem dX6_ground_147 : decode cX6_ground 147 = .ok (.isub, 1) := by decide +kernel
theorem dX6_ground_148 : decode cX6_ground 148 = .ok (.aload_n 0, 1) := by decide +kernel
theorem dX6_ground_149 : decode cX6_ground 149 = .ok (.getfield 31, 3) := by decide +kernel
theorem dX6_ground_152 : decode cX6_ground 152 = .ok (.iload 9, 2) := by decide +kernel
theorem dX6_ground_154 : decode cX6_ground 154 = .ok (.iaload, 1) := by decide +kernel
theorem dX6_ground_155 : decode cX6_ground 155 = .ok (.isub, 1) := by decide +kernel
theorem dX6_ground_156 : decode cX6_ground 156 = .ok (.i2l, 1) := by decide +kernel
theorem dX6_ground_157 : decode cX6_ground 157 = .ok (.ladd, 1) := by decide +kernel
theorem dX6_ground_158 : decode cX6_ground 158 = .ok (.putfield 82, 3) := by decide +kernel
theorem dX6_ground_161 : decode cX6_ground 161 = .ok (.aload_n 0, 1) := by decide +kernel
theorem dX6_ground_162 : decode cX6_ground 162 = .ok (.dup, 1) := by decide +kernel
theorem dX6_ground_163 : decode cX6_ground 163 = .ok (.getfield 87, 3) := by decide +kernel
theorem dX6_ground_166 : decode cX6_ground 166 = .ok (.iload 6, 2) := by decide +kernel
theorem dX6_ground_168 : decode cX6_ground 168 = .ok (.aload_n 0, 1) := by decide +kernel
theorem dX6_ground_169 : decode cX6_ground 169 = .ok (.getfield 37, 3) := by decide +kernel
theorem dX6_ground_172 : decode cX6_ground 172 = .ok (.iload 9, 2) := by decide +kernel
theorem dX6_ground_174 : decode cX6_ground 174 = .ok (.iaload, 1) := by decide +kernel
theorem dX6_ground_175 : decode cX6_ground 175 = .ok (.isub, 1) := by decide +kernel
theorem dX6_ground_176 : decode cX6_ground 176 = .ok (.i2l, 1) := by decide +kernel
theorem dX6_ground_177 : decode cX6_ground 177 = .ok (.ladd, 1) := by decide +kernel
theorem dX6_ground_178 : decode cX6_ground 178 = .ok (.putfield 87, 3) := by decide +kernel
theorem dX6_ground_181 : decode cX6_ground 181 = .ok (.aload_n 0, 1) := by decide +kernel
theorem dX6_ground_182 : decode cX6_ground 182 = .ok (.getfield 28, 3) := by decide +kernel
theorem dX6_ground_185 : decode cX6_ground 185 = .ok (.iload 9, 2) := by decide +kernel
theorem dX6_ground_187 : decode cX6_ground 187 = .ok (.iload_n 3, 1) := by decide +kernel
theorem dX6_ground_188 : decode cX6_ground 188 = .ok (.iastore, 1) := by decide +kernel
theorem dX6_ground_189 : decode cX6_ground 189 = .ok (.aload_n 0, 1) := by decide +kernel
theorem dX6_ground_190 : decode cX6_ground 190 = .ok (.getfield 31, 3) := by decide +kernel
theorem dX6_ground_193 : decode cX6_ground 193 = .ok (.iload 9, 2) := by decide +kernel
theorem dX6_ground_195 : decode cX6_ground 195 = .ok (.iload 4, 2) := by decide +kernel
theorem dX6_ground_197 : decode cX6_ground 197 = .ok (.iastore, 1) := by decide +kernel
theorem dX6_ground_198 : decode cX6_ground 198 = .ok (.aload_n 0, 1) := by decide +kernel
theorem dX6_ground_199 : decode cX6_ground 199 = .ok (.getfield 34, 3) := by decide +kernel
theorem dX6_ground_202 : decode cX6_ground 202 = .ok (.iload 9, 2) := by decide +kernel
theorem dX6_ground_204 : decode cX6_ground 204 = .ok (.iload 5, 2) := by decide +kernel
theorem dX6_ground_206 : decode cX6_ground 206 = .ok (.iastore, 1) := by decide +kernel
theorem dX6_ground_207 : decode cX6_ground 207 = .ok (.aload_n 0, 1) := by decide +kernel
theorem dX6_ground_208 : decode cX6_ground 208 = .ok (.getfield 37, 3) := by decide +kernel
theorem dX6_ground_211 : decode cX6_ground 211 = .ok (.iload 9, 2) := by decide +kernel
theorem dX6_ground_213 : decode cX6_ground 213 = .ok (.iload 6, 2) := by decide +kernel
theorem dX6_ground_215 : decode cX6_ground 215 = .ok (.iastore, 1) := by decide +kernel
theorem dX6_ground_216 : decode cX6_ground 216 = .ok (.return_, 1) := by decide +kernel
set_option maxRecDepth 20000 in
theorem ggX6_moss_X6_isCell : GoodIn wsX6_moss wsX6_isCell := goodIn_r _ [5, 6, 7, 4, 8] (by decide +kernel) (by decide +kernel)
set_option maxRecDepth 20000 in
theorem gX6_moss_X6_isCell : GoodIn wsX6_moss (va_wsS RX6 102 yX6_isCell wsX6_isCell) := goodIn_app (goodIn_of _ (by decide +kernel)) ggX6_moss_X6_isCell
set_option maxRecDepth 20000 in
theorem ggX6_moss_X6_within : GoodIn wsX6_moss wsX6_within := goodIn_r _ [8] (by decide +kernel) (by decide +kernel)
set_option maxRecDepth 20000 in
theorem gX6_moss_X6_within : GoodIn wsX6_moss (va_wsS RX6 94 yX6_within wsX6_within) := goodIn_app (goodIn_of _ (by decide +kernel)) ggX6_moss_X6_within
set_option maxRecDepth 20000 in
theorem ggX6_moss_X6_refused : GoodIn wsX6_moss wsX6_refused := goodIn_r _ [12, 13, 14, 15, 16, 17, 18, 19, 20, 21, 22, 23, 24, 25, 26, 27, 28, 29, 30, 31, 32, 33, 34, 35, 36, 37, 38, 39, 40, 41, 42, 43, 44, 45] (by decide +kernel) (by decide +kernel)
set_option maxRecDepth 20000 in
theorem gX6_moss_X6_refused : GoodIn wsX6_moss (wsV RX6 106 RX6 yX6_refused wsX6_refused) := goodIn_app (goodIn_of _ (by decide +kernel)) ggX6_moss_X6_refused
theorem dX6_moss_0 : decode cX6_moss 0 = .ok (.aload_n 0, 1) := by decide +kernel
theorem dX6_moss_1 : decode cX6_moss 1 = .ok (.iload_n 1, 1) := by decide +kernel
theorem dX6_moss_2 : decode cX6_moss 2 = .ok (.invokestatic 102, 3) := by decide +kernel
theorem dX6_moss_5 : decode cX6_moss 5 = .ok (.ifCond .ne 7, 3) := by decide +kernel
theorem dX6_moss_8 : decode cX6_moss 8 = .ok (.iconst 1, 1) := by decide +kernel
theorem dX6_moss_9 : decode cX6_moss 9 = .ok (.goto 17, 3) := by decide +kernel
theorem dX6_moss_12 : decode cX6_moss 12 = .ok (.iload_n 2, 1) := by decide +kernel
theorem dX6_moss_13 : decode cX6_moss 13 = .ok (.iconst 0, 1) := by decide +kernel
theorem dX6_moss_14 : decode cX6_moss 14 = .ok (.iconst 3, 1) := by decide +kernel
theorem dX6_moss_15 : decode cX6_moss 15 = .ok (.invokestatic 94, 3) := by decide +kernel
theorem dX6_moss_18 : decode cX6_moss 18 = .ok (.ifCond .ne 7, 3) := by decide +kernel
theorem dX6_moss_21 : decode cX6_moss 21 = .ok (.iconst 2, 1) := by decide +kernel
theorem dX6_moss_22 : decode cX6_moss 22 = .ok (.goto 4, 3) := by decide +kernel
theorem dX6_moss_25 : decode cX6_moss 25 = .ok (.iconst 0, 1) := by decide +kernel
theorem dX6_moss_26 : decode cX6_moss 26 = .ok (.invokevirtual 106, 3) := by decide +kernel
theorem dX6_moss_29 : decode cX6_moss 29 = .ok (.ifCond .eq 5, 3) := by decide +kernel
theorem dX6_moss_32 : decode cX6_moss 32 = .ok (.iconst 0, 1) := by decide +kernel
theorem dX6_moss_33 : decode cX6_moss 33 = .ok (.ireturn, 1) := by decide +kernel
theorem dX6_moss_34 : decode cX6_moss 34 = .ok (.aload_n 0, 1) := by decide +kernel
theorem dX6_moss_35 : decode cX6_moss 35 = .ok (.getfield 19, 3) := by decide +kernel
theorem dX6_moss_38 : decode cX6_moss 38 = .ok (.iload_n 1, 1) := by decide +kernel
theorem dX6_moss_39 : decode cX6_moss 39 = .ok (.iaload, 1) := by decide +kernel
theorem dX6_moss_40 : decode cX6_moss 40 = .ok (.istore_n 3, 1) := by decide +kernel
theorem dX6_moss_41 : decode cX6_moss 41 = .ok (.aload_n 0, 1) := by decide +kernel
theorem dX6_moss_42 : decode cX6_moss 42 = .ok (.getfield 19, 3) := by decide +kernel
theorem dX6_moss_45 : decode cX6_moss 45 = .ok (.iload_n 1, 1) := by decide +kernel
theorem dX6_moss_46 : decode cX6_moss 46 = .ok (.iload_n 2, 1) := by decide +kernel
theorem dX6_moss_47 : decode cX6_moss 47 = .ok (.iastore, 1) := by decide +kernel
theorem dX6_moss_48 : decode cX6_moss 48 = .ok (.iload_n 3, 1) := by decide +kernel
theorem dX6_moss_49 : decode cX6_moss 49 = .ok (.ireturn, 1) := by decide +kernel
set_option maxRecDepth 20000 in
theorem ggX6_pass_X6_within : GoodIn wsX6_pass wsX6_within := goodIn_r _ [5] (by decide +kernel) (by decide +kernel)
set_option maxRecDepth 20000 in
theorem gX6_pass_X6_within : GoodIn wsX6_pass (va_wsS RX6 94 yX6_within wsX6_within) := goodIn_app (goodIn_of _ (by decide +kernel)) ggX6_pass_X6_within
set_option maxRecDepth 20000 in
theorem ggX6_pass_X6_refused : GoodIn wsX6_pass wsX6_refused := goodIn_r _ [9, 10, 84, 85, 86, 87, 88, 89, 90, 91, 92, 93, 94, 95, 96, 97, 98, 99, 100, 101, 102, 103, 104, 105, 106, 107, 108, 109, 110, 111, 112, 113, 114, 115] (by decide +kernel) (by decide +kernel)
set_option maxRecDepth 20000 in
theorem gX6_pass_X6_refused : GoodIn wsX6_pass (wsV RX6 106 RX6 yX6_refused wsX6_refused) := goodIn_app (goodIn_of _ (by decide +kernel)) ggX6_pass_X6_refused
set_option maxRecDepth 20000 in
theorem ggX6_pass_X6_passOne : GoodIn wsX6_pass wsX6_passOne := goodIn_r _ [14, 15, 16, 17, 18, 19, 20, 21, 22, 1, 23, 24, 25, 26, 27, 4, 28, 29, 30, 31, 32, 33, 34, 35, 36, 37, 38, 39, 40, 41, 42, 43, 44, 45, 46, 47, 48, 49, 50, 51, 52, 53, 54, 55, 56, 57, 58, 59, 60, 61, 62, 63, 64, 65, 66, 67, 68, 69, 70, 71, 72, 73, 74, 75, 76, 77, 78, 79, 80, 81, 82, 83, 84, 85, 86, 87, 88, 89, 90, 91, 92, 93, 94, 95, 96, 97, 98, 99, 100, 101, 102, 103, 104, 105, 106, 107, 108, 109, 110, 111, 112, 113, 114, 115] (by decide +kernel) (by decide +kernel)
set_option maxRecDepth 20000 in
theorem gX6_pass_X6_passOne : GoodIn wsX6_pass (wsV RX6 112 RX6 yX6_passOne wsX6_passOne) := goodIn_app (goodIn_of _ (by decide +kernel)) ggX6_pass_X6_passOne
theorem dX6_pass_0 : decode cX6_pass 0 = .ok (.iload_n 1, 1) := by decide +kernel
theorem dX6_pass_1 : decode cX6_pass 1 = .ok (.iconst 1, 1) := by decide +kernel
theorem dX6_pass_2 : decode cX6_pass 2 = .ok (.bipush 24, 2) := by decide +kernel
theorem dX6_pass_4 : decode cX6_pass 4 = .ok (.invokestatic 94, 3) := by decide +kernel
theorem dX6_pass_7 : decode cX6_pass 7 = .ok (.ifCond .eq 28, 3) := by decide +kernel
theorem dX6_pass_10 : decode cX6_pass 10 = .ok (.iload_n 2, 1) := by decide +kernel
theorem dX6_pass_11 : decode cX6_pass 11 = .ok (.bipush (-50), 2) := by decide +kernel
theorem dX6_pass_13 : decode cX6_pass 13 = .ok (.bipush 30, 2) := by decide +kernel
theorem dX6_pass_15 : decode cX6_pass 15 = .ok (.invokestatic 94, 3) := by decide +kernel
theorem dX6_pass_18 : decode cX6_pass 18 = .ok (.ifCond .eq 17, 3) := by decide +kernel
theorem dX6_pass_21 : decode cX6_pass 21 = .ok (.iload_n 3, 1) := by decide +kernel
theorem dX6_pass_22 : decode cX6_pass 22 = .ok (.iconst 0, 1) := by decide +kernel
theorem dX6_pass_23 : decode cX6_pass 23 = .ok (.bipush 9, 2) := by decide +kernel
theorem dX6_pass_25 : decode cX6_pass 25 = .ok (.invokestatic 94, 3) := by decide +kernel
theorem dX6_pass_28 : decode cX6_pass 28 = .ok (.ifCond .eq 7, 3) := by decide +kernel
theorem dX6_pass_31 : decode cX6_pass 31 = .ok (.iconst 1, 1) := by decide +kernel
theorem dX6_pass_32 : decode cX6_pass 32 = .ok (.goto 4, 3) := by decide +kernel
theorem dX6_pass_35 : decode cX6_pass 35 = .ok (.iconst 0, 1) := by decide +kernel
theorem dX6_pass_36 : decode cX6_pass 36 = .ok (.istore 4, 2) := by decide +kernel
theorem dX6_pass_38 : decode cX6_pass 38 = .ok (.aload_n 0, 1) := by decide +kernel
theorem dX6_pass_39 : decode cX6_pass 39 = .ok (.iload 4, 2) := by decide +kernel
theorem dX6_pass_41 : decode cX6_pass 41 = .ok (.ifCond .ne 7, 3) := by decide +kernel
theorem dX6_pass_44 : decode cX6_pass 44 = .ok (.iconst 1, 1) := by decide +kernel
theorem dX6_pass_45 : decode cX6_pass 45 = .ok (.goto 20, 3) := by decide +kernel
theorem dX6_pass_48 : decode cX6_pass 48 = .ok (.aload_n 0, 1) := by decide +kernel
theorem dX6_pass_49 : decode cX6_pass 49 = .ok (.getfield 109, 3) := by decide +kernel
theorem dX6_pass_52 : decode cX6_pass 52 = .ok (.iload_n 1, 1) := by decide +kernel
theorem dX6_pass_53 : decode cX6_pass 53 = .ok (.iadd, 1) := by decide +kernel
theorem dX6_pass_54 : decode cX6_pass 54 = .ok (.sipush 600, 3) := by decide +kernel
theorem dX6_pass_57 : decode cX6_pass 57 = .ok (.if_icmp .le 7, 3) := by decide +kernel
theorem dX6_pass_60 : decode cX6_pass 60 = .ok (.iconst 2, 1) := by decide +kernel
theorem dX6_pass_61 : decode cX6_pass 61 = .ok (.goto 4, 3) := by decide +kernel
theorem dX6_pass_64 : decode cX6_pass 64 = .ok (.iconst 0, 1) := by decide +kernel
theorem dX6_pass_65 : decode cX6_pass 65 = .ok (.invokevirtual 106, 3) := by decide +kernel
theorem dX6_pass_68 : decode cX6_pass 68 = .ok (.ifCond .eq 5, 3) := by decide +kernel
theorem dX6_pass_71 : decode cX6_pass 71 = .ok (.iconst 0, 1) := by decide +kernel
theorem dX6_pass_72 : decode cX6_pass 72 = .ok (.ireturn, 1) := by decide +kernel
theorem dX6_pass_73 : decode cX6_pass 73 = .ok (.iconst 0, 1) := by decide +kernel
theorem dX6_pass_74 : decode cX6_pass 74 = .ok (.istore 5, 2) := by decide +kernel
theorem dX6_pass_76 : decode cX6_pass 76 = .ok (.iload 5, 2) := by decide +kernel
theorem dX6_pass_78 : decode cX6_pass 78 = .ok (.iload_n 1, 1) := by decide +kernel
theorem dX6_pass_79 : decode cX6_pass 79 = .ok (.if_icmp .ge 15, 3) := by decide +kernel
theorem dX6_pass_82 : decode cX6_pass 82 = .ok (.aload_n 0, 1) := by decide +kernel
theorem dX6_pass_83 : decode cX6_pass 83 = .ok (.iload_n 2, 1) := by decide +kernel
theorem dX6_pass_84 : decode cX6_pass 84 = .ok (.iload_n 3, 1) := by decide +kernel
theorem dX6_pass_85 : decode cX6_pass 85 = .ok (.invokevirtual 112, 3) := by decide +kernel
theorem dX6_pass_88 : decode cX6_pass 88 = .ok (.iinc 5 1, 3) := by decide +kernel
theorem dX6_pass_91 : decode cX6_pass 91 = .ok (.goto (-15), 3) := by decide +kernel
theorem dX6_pass_94 : decode cX6_pass 94 = .ok (.aload_n 0, 1) := by decide +kernel
theorem dX6_pass_95 : decode cX6_pass 95 = .ok (.getfield 109, 3) := by decide +kernel
theorem dX6_pass_98 : decode cX6_pass 98 = .ok (.ireturn, 1) := by decide +kernel
set_option maxRecDepth 20000 in
theorem ggX6_passOne_X6_lesser : GoodIn wsX6_passOne wsX6_lesser := goodIn_r _ [16] (by decide +kernel) (by decide +kernel)
set_option maxRecDepth 20000 in
theorem gX6_passOne_X6_lesser : GoodIn wsX6_passOne (va_wsS RX6 98 yX6_lesser wsX6_lesser) := goodIn_app (goodIn_of _ (by decide +kernel)) ggX6_passOne_X6_lesser
set_option maxRecDepth 20000 in
theorem ggX6_passOne_X6_heat : GoodIn wsX6_passOne wsX6_heat := goodIn_r _ [20, 21, 1, 22, 4, 2, 5, 23, 24, 25, 26, 15, 27, 28, 29, 30, 31, 32, 33, 34, 35, 36, 37, 38, 39, 40, 41, 42, 72, 73, 74, 75, 76, 77, 78, 79, 80, 81, 82, 83, 84, 85, 86, 87, 88, 89, 90, 91, 92, 93, 94, 95, 96, 97, 98, 99, 100, 101, 102, 103] (by decide +kernel) (by decide +kernel)
set_option maxRecDepth 20000 in
theorem gX6_passOne_X6_heat : GoodIn wsX6_passOne (wsV RX6 116 RX6 yX6_heat wsX6_heat) := goodIn_app (goodIn_of _ (by decide +kernel)) ggX6_passOne_X6_heat
set_option maxRecDepth 20000 in
theorem ggX6_passOne_X6_sink : GoodIn wsX6_passOne wsX6_sink := goodIn_r _ [46, 28, 29, 4, 47, 34, 48, 49, 50, 15, 51, 13, 14, 16, 35, 36, 37, 72, 73, 74, 75, 76, 77, 78, 79, 80, 81, 82, 83, 84, 85, 86, 87, 88, 89, 90, 91, 92, 93, 94, 95, 96, 97, 98, 99, 100, 101, 102, 103] (by decide +kernel) (by decide +kernel)
set_option maxRecDepth 20000 in
theorem gX6_passOne_X6_sink : GoodIn wsX6_passOne (wsV RX6 120 RX6 yX6_sink wsX6_sink) := goodIn_app (goodIn_of _ (by decide +kernel)) ggX6_passOne_X6_sink
set_option maxRecDepth 20000 in
theorem ggX6_passOne_X6_flow : GoodIn wsX6_passOne wsX6_flow := goodIn_r _ [55, 47, 34, 56, 57, 15, 58, 13, 14, 16, 72, 73, 74, 75, 76, 77, 78, 79, 80, 81, 82, 83, 84, 85, 86, 87, 88, 89, 90, 91, 92, 93, 94, 95, 96, 97, 98, 99, 100, 101, 102, 103] (by decide +kernel) (by decide +kernel)
set_option maxRecDepth 20000 in
theorem gX6_passOne_X6_flow : GoodIn wsX6_passOne (wsV RX6 123 RX6 yX6_flow wsX6_flow) := goodIn_app (goodIn_of _ (by decide +kernel)) ggX6_passOne_X6_flow
set_option maxRecDepth 20000 in
theorem ggX6_passOne_X6_crack : GoodIn wsX6_passOne wsX6_crack := goodIn_r _ [62, 63, 34, 29, 47, 4, 24, 25, 26, 15, 27, 28, 72, 73, 74, 75, 76, 77, 78, 79, 80, 81, 82, 83, 84, 85, 86, 87, 88, 89, 90, 91, 92, 93, 94, 95, 96, 97, 98, 99, 100, 101, 102, 103] (by decide +kernel) (by decide +kernel)
set_option maxRecDepth 20000 in
theorem gX6_passOne_X6_crack : GoodIn wsX6_passOne (wsV RX6 126 RX6 yX6_crack wsX6_crack) := goodIn_app (goodIn_of _ (by decide +kernel)) ggX6_passOne_X6_crack
set_option maxRecDepth 20000 in
theorem ggX6_passOne_X6_wake : GoodIn wsX6_passOne wsX6_wake := goodIn_r _ [67, 68, 69, 70, 71, 22, 24, 25, 26, 15, 27, 28, 29, 4, 13, 14, 16, 30, 31, 32, 33, 34, 72, 73, 74, 75, 76, 77, 78, 79, 80, 81, 82, 83, 84, 85, 86, 87, 88, 89, 90, 91, 92, 93, 94, 95, 96, 97, 98, 99, 100, 101, 102, 103] (by decide +kernel) (by decide +kernel)
set_option maxRecDepth 20000 in
theorem gX6_passOne_X6_wake : GoodIn wsX6_passOne (wsV RX6 129 RX6 yX6_wake wsX6_wake) := goodIn_app (goodIn_of _ (by decide +kernel)) ggX6_passOne_X6_wake
set_option maxRecDepth 20000 in
theorem ggX6_passOne_X6_degreesOf : GoodIn wsX6_passOne wsX6_degreesOf := goodIn_r _ [27, 28, 29, 4, 72, 73, 74, 75, 76, 77, 78, 79, 80, 81, 82, 83, 84, 85, 86, 87, 88, 89, 90, 91, 92, 93, 94, 95, 96, 97, 98, 99, 100, 101, 102, 103] (by decide +kernel) (by decide +kernel)
set_option maxRecDepth 20000 in
theorem gX6_passOne_X6_degreesOf : GoodIn wsX6_passOne (wsV RX6 138 RX6 yX6_degreesOf wsX6_degreesOf) := goodIn_app (goodIn_of _ (by decide +kernel)) ggX6_passOne_X6_degreesOf
theorem dX6_passOne_0 : decode cX6_passOne 0 = .ok (.iconst 0, 1) := by decide +kernel
theorem dX6_passOne_1 : decode cX6_passOne 1 = .ok (.istore_n 3, 1) := by decide +kernel
theorem dX6_passOne_2 : decode cX6_passOne 2 = .ok (.iload_n 3, 1) := by decide +kernel
theorem dX6_passOne_3 : decode cX6_passOne 3 = .ok (.bipush 25, 2) := by decide +kernel
theorem dX6_passOne_5 : decode cX6_passOne 5 = .ok (.if_icmp .ge 36, 3) := by decide +kernel
theorem dX6_passOne_8 : decode cX6_passOne 8 = .ok (.aload_n 0, 1) := by decide +kernel
theorem dX6_passOne_9 : decode cX6_passOne 9 = .ok (.getfield 16, 3) := by decide +kernel
theorem dX6_passOne_12 : decode cX6_passOne 12 = .ok (.iload_n 3, 1) := by decide +kernel
theorem dX6_passOne_13 : decode cX6_passOne 13 = .ok (.iload_n 1, 1) := by decide +kernel
theorem dX6_passOne_14 : decode cX6_passOne 14 = .ok (.ifCond .ge 19, 3) := by decide +kernel
theorem dX6_passOne_17 : decode cX6_passOne 17 = .ok (.bipush 9, 2) := by decide +kernel
theorem dX6_passOne_19 : decode cX6_passOne 19 = .ok (.aload_n 0, 1) := by decide +kernel
theorem dX6_passOne_20 : decode cX6_passOne 20 = .ok (.getfield 16, 3) := by decide +kernel
theorem dX6_passOne_23 : decode cX6_passOne 23 = .ok (.iload_n 3, 1) := by decide +kernel
theorem dX6_passOne_24 : decode cX6_passOne 24 = .ok (.iaload, 1) := by decide +kernel
theorem dX6_passOne_25 : decode cX6_passOne 25 = .ok (.iload_n 2, 1) := by decide +kernel
theorem dX6_passOne_26 : decode cX6_passOne 26 = .ok (.iadd, 1) := by decide +kernel
theorem dX6_passOne_27 : decode cX6_passOne 27 = .ok (.invokestatic 98, 3) := by decide +kernel
theorem dX6_passOne_30 : decode cX6_passOne 30 = .ok (.goto 4, 3) := by decide +kernel
theorem dX6_passOne_33 : decode cX6_passOne 33 = .ok (.iconst 0, 1) := by decide +kernel
theorem dX6_passOne_34 : decode cX6_passOne 34 = .ok (.iastore, 1) := by decide +kernel
theorem dX6_passOne_35 : decode cX6_passOne 35 = .ok (.iinc 3 1, 3) := by decide +kernel
theorem dX6_passOne_38 : decode cX6_passOne 38 = .ok (.goto (-36), 3) := by decide +kernel
theorem dX6_passOne_41 : decode cX6_passOne 41 = .ok (.aload_n 0, 1) := by decide +kernel
theorem dX6_passOne_42 : decode cX6_passOne 42 = .ok (.iload_n 1, 1) := by decide +kernel
theorem dX6_passOne_43 : decode cX6_passOne 43 = .ok (.invokevirtual 116, 3) := by decide +kernel
theorem dX6_passOne_46 : decode cX6_passOne 46 = .ok (.iconst 0, 1) := by decide +kernel
theorem dX6_passOne_47 : decode cX6_passOne 47 = .ok (.istore_n 3, 1) := by decide +kernel
theorem dX6_passOne_48 : decode cX6_passOne 48 = .ok (.iload_n 3, 1) := by decide +kernel
theorem dX6_passOne_49 : decode cX6_passOne 49 = .ok (.bipush 125, 2) := by decide +kernel
theorem dX6_passOne_51 : decode cX6_passOne 51 = .ok (.if_icmp .ge 14, 3) := by decide +kernel
theorem dX6_passOne_54 : decode cX6_passOne 54 = .ok (.aload_n 0, 1) := by decide +kernel
theorem dX6_passOne_55 : decode cX6_passOne 55 = .ok (.iload_n 3, 1) := by decide +kernel
theorem dX6_passOne_56 : decode cX6_passOne 56 = .ok (.invokevirtual 120, 3) := by decide +kernel
theorem dX6_passOne_59 : decode cX6_passOne 59 = .ok (.iinc 3 1, 3) := by decide +kernel
theorem dX6_passOne_62 : decode cX6_passOne 62 = .ok (.goto (-14), 3) := by decide +kernel
theorem dX6_passOne_65 : decode cX6_passOne 65 = .ok (.iconst 0, 1) := by decide +kernel
theorem dX6_passOne_66 : decode cX6_passOne 66 = .ok (.istore_n 3, 1) := by decide +kernel
theorem dX6_passOne_67 : decode cX6_passOne 67 = .ok (.iload_n 3, 1) := by decide +kernel
theorem dX6_passOne_68 : decode cX6_passOne 68 = .ok (.bipush 25, 2) := by decide +kernel
theorem dX6_passOne_70 : decode cX6_passOne 70 = .ok (.if_icmp .ge 14, 3) := by decide +kernel
theorem dX6_passOne_73 : decode cX6_passOne 73 = .ok (.aload_n 0, 1) := by decide +kernel
theorem dX6_passOne_74 : decode cX6_passOne 74 = .ok (.iload_n 3, 1) := by decide +kernel
theorem dX6_passOne_75 : decode cX6_passOne 75 = .ok (.invokevirtual 123, 3) := by decide +kernel
theorem dX6_passOne_78 : decode cX6_passOne 78 = .ok (.iinc 3 1, 3) := by decide +kernel
theorem dX6_passOne_81 : decode cX6_passOne 81 = .ok (.goto (-14), 3) := by decide +kernel
theorem dX6_passOne_84 : decode cX6_passOne 84 = .ok (.iload_n 1, 1) := by decide +kernel
theorem dX6_passOne_85 : decode cX6_passOne 85 = .ok (.bipush (-20), 2) := by decide +kernel
theorem dX6_passOne_87 : decode cX6_passOne 87 = .ok (.if_icmp .gt 7, 3) := by decide +kernel
theorem dX6_passOne_90 : decode cX6_passOne 90 = .ok (.aload_n 0, 1) := by decide +kernel
theorem dX6_passOne_91 : decode cX6_passOne 91 = .ok (.invokevirtual 126, 3) := by decide +kernel
theorem dX6_passOne_94 : decode cX6_passOne 94 = .ok (.iconst 0, 1) := by decide +kernel
theorem dX6_passOne_95 : decode cX6_passOne 95 = .ok (.istore_n 3, 1) := by decide +kernel
theorem dX6_passOne_96 : decode cX6_passOne 96 = .ok (.iload_n 3, 1) := by decide +kernel
theorem dX6_passOne_97 : decode cX6_passOne 97 = .ok (.bipush 25, 2) := by decide +kernel
theorem dX6_passOne_99 : decode cX6_passOne 99 = .ok (.if_icmp .ge 15, 3) := by decide +kernel
theorem dX6_passOne_102 : decode cX6_passOne 102 = .ok (.aload_n 0, 1) := by decide +kernel
theorem dX6_passOne_103 : decode cX6_passOne 103 = .ok (.iload_n 3, 1) := by decide +kernel
theorem dX6_passOne_104 : decode cX6_passOne 104 = .ok (.iload_n 1, 1) := by decide +kernel
theorem dX6_passOne_105 : decode cX6_passOne 105 = .ok (.invokevirtual 129, 3) := by decide +kernel
theorem dX6_passOne_108 : decode cX6_passOne 108 = .ok (.iinc 3 1, 3) := by decide +kernel
theorem dX6_passOne_111 : decode cX6_passOne 111 = .ok (.goto (-15), 3) := by decide +kernel
theorem dX6_passOne_114 : decode cX6_passOne 114 = .ok (.iconst 0, 1) := by decide +kernel
theorem dX6_passOne_115 : decode cX6_passOne 115 = .ok (.istore_n 3, 1) := by decide +kernel
theorem dX6_passOne_116 : decode cX6_passOne 116 = .ok (.iload_n 3, 1) := by decide +kernel
theorem dX6_passOne_117 : decode cX6_passOne 117 = .ok (.aload_n 0, 1) := by decide +kernel
theorem dX6_passOne_118 : decode cX6_passOne 118 = .ok (.getfield 132, 3) := by decide +kernel
theorem dX6_passOne_121 : decode cX6_passOne 121 = .ok (.if_icmp .ge 46, 3) := by decide +kernel
theorem dX6_passOne_124 : decode cX6_passOne 124 = .ok (.aload_n 0, 1) := by decide +kernel
theorem dX6_passOne_125 : decode cX6_passOne 125 = .ok (.getfield 53, 3) := by decide +kernel
theorem dX6_passOne_128 : decode cX6_passOne 128 = .ok (.iload_n 3, 1) := by decide +kernel
theorem dX6_passOne_129 : decode cX6_passOne 129 = .ok (.dup2, 1) := by decide +kernel
theorem dX6_passOne_130 : decode cX6_passOne 130 = .ok (.iaload, 1) := by decide +kernel
theorem dX6_passOne_131 : decode cX6_passOne 131 = .ok (.aload_n 0, 1) := by decide +kernel
theorem dX6_passOne_132 : decode cX6_passOne 132 = .ok (.getfield 34, 3) := by decide +kernel
theorem dX6_passOne_135 : decode cX6_passOne 135 = .ok (.iconst 5, 1) := by decide +kernel
theorem dX6_passOne_136 : decode cX6_passOne 136 = .ok (.aload_n 0, 1) := by decide +kernel
theorem dX6_passOne_137 : decode cX6_passOne 137 = .ok (.getfield 43, 3) := by decide +kernel
theorem dX6_passOne_140 : decode cX6_passOne 140 = .ok (.iload_n 3, 1) := by decide +kernel
theorem dX6_passOne_141 : decode cX6_passOne 141 = .ok (.iaload, 1) := by decide +kernel
theorem dX6_passOne_142 : decode cX6_passOne 142 = .ok (.imul, 1) := by decide +kernel
theorem dX6_passOne_143 : decode cX6_passOne 143 = .ok (.aload_n 0, 1) := by decide +kernel
theorem dX6_passOne_144 : decode cX6_passOne 144 = .ok (.getfield 46, 3) := by decide +kernel
theorem dX6_passOne_147 : decode cX6_passOne 147 = .ok (.iload_n 3, 1) := by decide +kernel
theorem dX6_passOne_148 : decode cX6_passOne 148 = .ok (.iaload, 1) := by decide +kernel
theorem dX6_passOne_149 : decode cX6_passOne 149 = .ok (.iadd, 1) := by decide +kernel
theorem dX6_passOne_150 : decode cX6_passOne 150 = .ok (.iaload, 1) := by decide +kernel
theorem dX6_passOne_151 : decode cX6_passOne 151 = .ok (.ifCond .lt 7, 3) := by decide +kernel
theorem dX6_passOne_154 : decode cX6_passOne 154 = .ok (.iconst 1, 1) := by decide +kernel
theorem dX6_passOne_155 : decode cX6_passOne 155 = .ok (.goto 4, 3) := by decide +kernel
theorem dX6_passOne_158 : decode cX6_passOne 158 = .ok (.iconst 0, 1) := by decide +kernel
theorem dX6_passOne_159 : decode cX6_passOne 159 = .ok (.iadd, 1) := by decide +kernel
theorem dX6_passOne_160 : decode cX6_passOne 160 = .ok (.iastore, 1) := by decide +kernel
theorem dX6_passOne_161 : decode cX6_passOne 161 = .ok (.iinc 3 1, 3) := by decide +kernel
theorem dX6_passOne_164 : decode cX6_passOne 164 = .ok (.goto (-48), 3) := by decide +kernel
theorem dX6_passOne_167 : decode cX6_passOne 167 = .ok (.iconst 0, 1) := by decide +kernel
theorem dX6_passOne_168 : decode cX6_passOne 168 = .ok (.istore_n 3, 1) := by decide +kernel
theorem dX6_passOne_169 : decode cX6_passOne 169 = .ok (.iload_n 3, 1) := by decide +kernel
theorem dX6_passOne_170 : decode cX6_passOne 170 = .ok (.aload_n 0, 1) := by decide +kernel
theorem dX6_passOne_171 : decode cX6_passOne 171 = .ok (.getfield 135, 3) := by decide +kernel
theorem dX6_passOne_174 : decode cX6_passOne 174 = .ok (.if_icmp .ge 83, 3) := by decide +kernel
theorem dX6_passOne_177 : decode cX6_passOne 177 = .ok (.iconst 0, 1) := by decide +kernel
theorem dX6_passOne_178 : decode cX6_passOne 178 = .ok (.istore 4, 2) := by decide +kernel
theorem dX6_passOne_180 : decode cX6_passOne 180 = .ok (.iload 4, 2) := by decide +kernel
theorem dX6_passOne_182 : decode cX6_passOne 182 = .ok (.iconst 5, 1) := by decide +kernel
theorem dX6_passOne_183 : decode cX6_passOne 183 = .ok (.if_icmp .ge 68, 3) := by decide +kernel
theorem dX6_passOne_186 : decode cX6_passOne 186 = .ok (.aload_n 0, 1) := by decide +kernel
theorem dX6_passOne_187 : decode cX6_passOne 187 = .ok (.getfield 68, 3) := by decide +kernel
theorem dX6_passOne_190 : decode cX6_passOne 190 = .ok (.sipush 3000, 3) := by decide +kernel
theorem dX6_passOne_193 : decode cX6_passOne 193 = .ok (.iload_n 3, 1) := by decide +kernel
theorem dX6_passOne_194 : decode cX6_passOne 194 = .ok (.imul, 1) := by decide +kernel
theorem dX6_passOne_195 : decode cX6_passOne 195 = .ok (.iconst 5, 1) := by decide +kernel
theorem dX6_passOne_196 : decode cX6_passOne 196 = .ok (.aload_n 0, 1) := by decide +kernel
theorem dX6_passOne_197 : decode cX6_passOne 197 = .ok (.getfield 109, 3) := by decide +kernel
theorem dX6_passOne_200 : decode cX6_passOne 200 = .ok (.imul, 1) := by decide +kernel
theorem dX6_passOne_201 : decode cX6_passOne 201 = .ok (.iadd, 1) := by decide +kernel
theorem dX6_passOne_202 : decode cX6_passOne 202 = .ok (.iload 4, 2) := by decide +kernel
theorem dX6_passOne_204 : decode cX6_passOne 204 = .ok (.iadd, 1) := by decide +kernel
theorem dX6_passOne_205 : decode cX6_passOne 205 = .ok (.aload_n 0, 1) := by decide +kernel
theorem dX6_passOne_206 : decode cX6_passOne 206 = .ok (.iconst 5, 1) := by decide +kernel
theorem dX6_passOne_207 : decode cX6_passOne 207 = .ok (.aload_n 0, 1) := by decide +kernel
theorem dX6_passOne_208 : decode cX6_passOne 208 = .ok (.getfield 59, 3) := by decide +kernel
theorem dX6_passOne_211 : decode cX6_passOne 211 = .ok (.iload_n 3, 1) := by decide +kernel
theorem dX6_passOne_212 : decode cX6_passOne 212 = .ok (.iaload, 1) := by decide +kernel
theorem dX6_passOne_213 : decode cX6_passOne 213 = .ok (.imul, 1) := by decide +kernel
theorem dX6_passOne_214 : decode cX6_passOne 214 = .ok (.iload 4, 2) := by decide +kernel
theorem dX6_passOne_216 : decode cX6_passOne 216 = .ok (.iadd, 1) := by decide +kernel
theorem dX6_passOne_217 : decode cX6_passOne 217 = .ok (.invokevirtual 138, 3) := by decide +kernel
theorem dX6_passOne_220 : decode cX6_passOne 220 = .ok (.aload_n 0, 1) := by decide +kernel
theorem dX6_passOne_221 : decode cX6_passOne 221 = .ok (.getfield 62, 3) := by decide +kernel
theorem dX6_passOne_224 : decode cX6_passOne 224 = .ok (.iload_n 3, 1) := by decide +kernel
theorem dX6_passOne_225 : decode cX6_passOne 225 = .ok (.iaload, 1) := by decide +kernel
theorem dX6_passOne_226 : decode cX6_passOne 226 = .ok (.aload_n 0, 1) := by decide +kernel
theorem dX6_passOne_227 : decode cX6_passOne 227 = .ok (.getfield 109, 3) := by decide +kernel
theorem dX6_passOne_230 : decode cX6_passOne 230 = .ok (.iconst 1, 1) := by decide +kernel
theorem dX6_passOne_231 : decode cX6_passOne 231 = .ok (.iadd, 1) := by decide +kernel
theorem dX6_passOne_232 : decode cX6_passOne 232 = .ok (.aload_n 0, 1) := by decide +kernel
theorem dX6_passOne_233 : decode cX6_passOne 233 = .ok (.getfield 65, 3) := by decide +kernel
theorem dX6_passOne_236 : decode cX6_passOne 236 = .ok (.iload_n 3, 1) := by decide +kernel
theorem dX6_passOne_237 : decode cX6_passOne 237 = .ok (.iaload, 1) := by decide +kernel
theorem dX6_passOne_238 : decode cX6_passOne 238 = .ok (.isub, 1) := by decide +kernel
theorem dX6_passOne_239 : decode cX6_passOne 239 = .ok (.imul, 1) := by decide +kernel
theorem dX6_passOne_240 : decode cX6_passOne 240 = .ok (.bipush 12, 2) := by decide +kernel
theorem dX6_passOne_242 : decode cX6_passOne 242 = .ok (.idiv, 1) := by decide +kernel
theorem dX6_passOne_243 : decode cX6_passOne 243 = .ok (.iadd, 1) := by decide +kernel
theorem dX6_passOne_244 : decode cX6_passOne 244 = .ok (.iastore, 1) := by decide +kernel
theorem dX6_passOne_245 : decode cX6_passOne 245 = .ok (.iinc 4 1, 3) := by decide +kernel
theorem dX6_passOne_248 : decode cX6_passOne 248 = .ok (.goto (-68), 3) := by decide +kernel
theorem dX6_passOne_251 : decode cX6_passOne 251 = .ok (.iinc 3 1, 3) := by decide +kernel
theorem dX6_passOne_254 : decode cX6_passOne 254 = .ok (.goto (-85), 3) := by decide +kernel
theorem dX6_passOne_257 : decode cX6_passOne 257 = .ok (.aload_n 0, 1) := by decide +kernel
theorem dX6_passOne_258 : decode cX6_passOne 258 = .ok (.dup, 1) := by decide +kernel
theorem dX6_passOne_259 : decode cX6_passOne 259 = .ok (.getfield 109, 3) := by decide +kernel
theorem dX6_passOne_262 : decode cX6_passOne 262 = .ok (.iconst 1, 1) := by decide +kernel
theorem dX6_passOne_263 : decode cX6_passOne 263 = .ok (.iadd, 1) := by decide +kernel
theorem dX6_passOne_264 : decode cX6_passOne 264 = .ok (.putfield 109, 3) := by decide +kernel
theorem dX6_passOne_267 : decode cX6_passOne 267 = .ok (.return_, 1) := by decide +kernel
theorem dX6_bring_0 : decode cX6_bring 0 = .ok (.aload_n 0, 1) := by decide +kernel
theorem dX6_bring_1 : decode cX6_bring 1 = .ok (.getfield 34, 3) := by decide +kernel
theorem dX6_bring_4 : decode cX6_bring 4 = .ok (.iload_n 1, 1) := by decide +kernel
theorem dX6_bring_5 : decode cX6_bring 5 = .ok (.dup2, 1) := by decide +kernel
theorem dX6_bring_6 : decode cX6_bring 6 = .ok (.iaload, 1) := by decide +kernel
theorem dX6_bring_7 : decode cX6_bring 7 = .ok (.iload_n 2, 1) := by decide +kernel
theorem dX6_bring_8 : decode cX6_bring 8 = .ok (.iadd, 1) := by decide +kernel
theorem dX6_bring_9 : decode cX6_bring 9 = .ok (.iastore, 1) := by decide +kernel
theorem dX6_bring_10 : decode cX6_bring 10 = .ok (.aload_n 0, 1) := by decide +kernel
theorem dX6_bring_11 : decode cX6_bring 11 = .ok (.dup, 1) := by decide +kernel
theorem dX6_bring_12 : decode cX6_bring 12 = .ok (.getfield 76, 3) := by decide +kernel
theorem dX6_bring_15 : decode cX6_bring 15 = .ok (.iload_n 2, 1) := by decide +kernel
theorem dX6_bring_16 : decode cX6_bring 16 = .ok (.i2l, 1) := by decide +kernel
theorem dX6_bring_17 : decode cX6_bring 17 = .ok (.ladd, 1) := by decide +kernel
theorem dX6_bring_18 : decode cX6_bring 18 = .ok (.putfield 76, 3) := by decide +kernel
theorem dX6_bring_21 : decode cX6_bring 21 = .ok (.return_, 1) := by decide +kernel
set_option maxRecDepth 20000 in
theorem ggX6_heat_X6_degreesOf : GoodIn wsX6_heat wsX6_degreesOf := goodIn_r _ [12, 13, 14, 4, 28, 29, 30, 31, 32, 33, 34, 35, 36, 37, 38, 39, 40, 41, 42, 43, 44, 45, 46, 47, 48, 49, 50, 51, 52, 53, 54, 55, 56, 57, 58, 59] (by decide +kernel) (by decide +kernel)
set_option maxRecDepth 20000 in
theorem gX6_heat_X6_degreesOf : GoodIn wsX6_heat (wsV RX6 138 RX6 yX6_degreesOf wsX6_degreesOf) := goodIn_app (goodIn_of _ (by decide +kernel)) ggX6_heat_X6_degreesOf
set_option maxRecDepth 20000 in
theorem ggX6_heat_X6_isLake : GoodIn wsX6_heat wsX6_isLake := goodIn_r _ [18, 19, 28, 29, 30, 31, 32, 33, 34, 35, 36, 37, 38, 39, 40, 41, 42, 43, 44, 45, 46, 47, 48, 49, 50, 51, 52, 53, 54, 55, 56, 57, 58, 59] (by decide +kernel) (by decide +kernel)
set_option maxRecDepth 20000 in
theorem gX6_heat_X6_isLake : GoodIn wsX6_heat (wsV RX6 142 RX6 yX6_isLake wsX6_isLake) := goodIn_app (goodIn_of _ (by decide +kernel)) ggX6_heat_X6_isLake
set_option maxRecDepth 20000 in
theorem ggX6_heat_X6_greater : GoodIn wsX6_heat wsX6_greater := goodIn_r _ [22] (by decide +kernel) (by decide +kernel)
set_option maxRecDepth 20000 in
theorem gX6_heat_X6_greater : GoodIn wsX6_heat (va_wsS RX6 145 yX6_greater wsX6_greater) := goodIn_app (goodIn_of _ (by decide +kernel)) ggX6_heat_X6_greater
set_option maxRecDepth 20000 in
theorem ggX6_heat_X6_bring : GoodIn wsX6_heat wsX6_bring := goodIn_r _ [26, 4, 27, 28, 29, 30, 31, 32, 33, 34, 35, 36, 37, 38, 39, 40, 41, 42, 43, 44, 45, 46, 47, 48, 49, 50, 51, 52, 53, 54, 55, 56, 57, 58, 59] (by decide +kernel) (by decide +kernel)
set_option maxRecDepth 20000 in
theorem gX6_heat_X6_bring : GoodIn wsX6_heat (wsV RX6 148 RX6 yX6_bring wsX6_bring) := goodIn_app (goodIn_of _ (by decide +kernel)) ggX6_heat_X6_bring
theorem dX6_heat_0 : decode cX6_heat 0 = .ok (.iconst 0, 1) := by decide +kernel
theorem dX6_heat_1 : decode cX6_heat 1 = .ok (.istore_n 2, 1) := by decide +kernel
theorem dX6_heat_2 : decode cX6_heat 2 = .ok (.iload_n 2, 1) := by decide +kernel
theorem dX6_heat_3 : decode cX6_heat 3 = .ok (.bipush 125, 2) := by decide +kernel
theorem dX6_heat_5 : decode cX6_heat 5 = .ok (.if_icmp .ge 20, 3) := by decide +kernel
theorem dX6_heat_8 : decode cX6_heat 8 = .ok (.aload_n 0, 1) := by decide +kernel
theorem dX6_heat_9 : decode cX6_heat 9 = .ok (.getfield 40, 3) := by decide +kernel
theorem dX6_heat_12 : decode cX6_heat 12 = .ok (.iload_n 2, 1) := by decide +kernel
theorem dX6_heat_13 : decode cX6_heat 13 = .ok (.aload_n 0, 1) := by decide +kernel
theorem dX6_heat_14 : decode cX6_heat 14 = .ok (.iload_n 2, 1) := by decide +kernel
theorem dX6_heat_15 : decode cX6_heat 15 = .ok (.invokevirtual 138, 3) := by decide +kernel
theorem dX6_heat_18 : decode cX6_heat 18 = .ok (.iastore, 1) := by decide +kernel
theorem dX6_heat_19 : decode cX6_heat 19 = .ok (.iinc 2 1, 3) := by decide +kernel
theorem dX6_heat_22 : decode cX6_heat 22 = .ok (.goto (-20), 3) := by decide +kernel
theorem dX6_heat_25 : decode cX6_heat 25 = .ok (.iconst 0, 1) := by decide +kernel
theorem dX6_heat_26 : decode cX6_heat 26 = .ok (.istore_n 2, 1) := by decide +kernel
theorem dX6_heat_27 : decode cX6_heat 27 = .ok (.iload_n 2, 1) := by decide +kernel
theorem dX6_heat_28 : decode cX6_heat 28 = .ok (.bipush 25, 2) := by decide +kernel
theorem dX6_heat_30 : decode cX6_heat 30 = .ok (.if_icmp .ge 162, 3) := by decide +kernel
theorem dX6_heat_33 : decode cX6_heat 33 = .ok (.aload_n 0, 1) := by decide +kernel
theorem dX6_heat_34 : decode cX6_heat 34 = .ok (.iload_n 2, 1) := by decide +kernel
theorem dX6_heat_35 : decode cX6_heat 35 = .ok (.invokevirtual 142, 3) := by decide +kernel
theorem dX6_heat_38 : decode cX6_heat 38 = .ok (.ifCond .eq 8, 3) := by decide +kernel
theorem dX6_heat_41 : decode cX6_heat 41 = .ok (.bipush 30, 2) := by decide +kernel
theorem dX6_heat_43 : decode cX6_heat 43 = .ok (.goto 23, 3) := by decide +kernel
theorem dX6_heat_46 : decode cX6_heat 46 = .ok (.bipush 60, 2) := by decide +kernel
theorem dX6_heat_48 : decode cX6_heat 48 = .ok (.iconst 2, 1) := by decide +kernel
theorem dX6_heat_49 : decode cX6_heat 49 = .ok (.aload_n 0, 1) := by decide +kernel
theorem dX6_heat_50 : decode cX6_heat 50 = .ok (.getfield 16, 3) := by decide +kernel
theorem dX6_heat_53 : decode cX6_heat 53 = .ok (.iload_n 2, 1) := by decide +kernel
theorem dX6_heat_54 : decode cX6_heat 54 = .ok (.iaload, 1) := by decide +kernel
theorem dX6_heat_55 : decode cX6_heat 55 = .ok (.iadd, 1) := by decide +kernel
theorem dX6_heat_56 : decode cX6_heat 56 = .ok (.iconst 2, 1) := by decide +kernel
theorem dX6_heat_57 : decode cX6_heat 57 = .ok (.aload_n 0, 1) := by decide +kernel
theorem dX6_heat_58 : decode cX6_heat 58 = .ok (.getfield 19, 3) := by decide +kernel
theorem dX6_heat_61 : decode cX6_heat 61 = .ok (.iload_n 2, 1) := by decide +kernel
theorem dX6_heat_62 : decode cX6_heat 62 = .ok (.iaload, 1) := by decide +kernel
theorem dX6_heat_63 : decode cX6_heat 63 = .ok (.imul, 1) := by decide +kernel
theorem dX6_heat_64 : decode cX6_heat 64 = .ok (.iadd, 1) := by decide +kernel
theorem dX6_heat_65 : decode cX6_heat 65 = .ok (.idiv, 1) := by decide +kernel
theorem dX6_heat_66 : decode cX6_heat 66 = .ok (.istore_n 3, 1) := by decide +kernel
theorem dX6_heat_67 : decode cX6_heat 67 = .ok (.aload_n 0, 1) := by decide +kernel
theorem dX6_heat_68 : decode cX6_heat 68 = .ok (.iload_n 2, 1) := by decide +kernel
theorem dX6_heat_69 : decode cX6_heat 69 = .ok (.invokevirtual 142, 3) := by decide +kernel
theorem dX6_heat_72 : decode cX6_heat 72 = .ok (.ifCond .eq 11, 3) := by decide +kernel
theorem dX6_heat_75 : decode cX6_heat 75 = .ok (.iconst 0, 1) := by decide +kernel
theorem dX6_heat_76 : decode cX6_heat 76 = .ok (.iload_n 1, 1) := by decide +kernel
theorem dX6_heat_77 : decode cX6_heat 77 = .ok (.invokestatic 145, 3) := by decide +kernel
theorem dX6_heat_80 : decode cX6_heat 80 = .ok (.goto 4, 3) := by decide +kernel
theorem dX6_heat_83 : decode cX6_heat 83 = .ok (.iload_n 1, 1) := by decide +kernel
theorem dX6_heat_84 : decode cX6_heat 84 = .ok (.istore 4, 2) := by decide +kernel
theorem dX6_heat_86 : decode cX6_heat 86 = .ok (.aload_n 0, 1) := by decide +kernel
theorem dX6_heat_87 : decode cX6_heat 87 = .ok (.iconst 5, 1) := by decide +kernel
theorem dX6_heat_88 : decode cX6_heat 88 = .ok (.iload_n 2, 1) := by decide +kernel
theorem dX6_heat_89 : decode cX6_heat 89 = .ok (.imul, 1) := by decide +kernel
theorem dX6_heat_90 : decode cX6_heat 90 = .ok (.iload_n 3, 1) := by decide +kernel
theorem dX6_heat_91 : decode cX6_heat 91 = .ok (.iload 4, 2) := by decide +kernel
theorem dX6_heat_93 : decode cX6_heat 93 = .ok (.aload_n 0, 1) := by decide +kernel
theorem dX6_heat_94 : decode cX6_heat 94 = .ok (.getfield 40, 3) := by decide +kernel
theorem dX6_heat_97 : decode cX6_heat 97 = .ok (.iconst 5, 1) := by decide +kernel
theorem dX6_heat_98 : decode cX6_heat 98 = .ok (.iload_n 2, 1) := by decide +kernel
theorem dX6_heat_99 : decode cX6_heat 99 = .ok (.imul, 1) := by decide +kernel
theorem dX6_heat_100 : decode cX6_heat 100 = .ok (.iaload, 1) := by decide +kernel
theorem dX6_heat_101 : decode cX6_heat 101 = .ok (.isub, 1) := by decide +kernel
theorem dX6_heat_102 : decode cX6_heat 102 = .ok (.imul, 1) := by decide +kernel
theorem dX6_heat_103 : decode cX6_heat 103 = .ok (.invokevirtual 148, 3) := by decide +kernel
theorem dX6_heat_106 : decode cX6_heat 106 = .ok (.iconst 5, 1) := by decide +kernel
theorem dX6_heat_107 : decode cX6_heat 107 = .ok (.iload_n 2, 1) := by decide +kernel
theorem dX6_heat_108 : decode cX6_heat 108 = .ok (.imul, 1) := by decide +kernel
theorem dX6_heat_109 : decode cX6_heat 109 = .ok (.istore 5, 2) := by decide +kernel
theorem dX6_heat_111 : decode cX6_heat 111 = .ok (.iload 5, 2) := by decide +kernel
theorem dX6_heat_113 : decode cX6_heat 113 = .ok (.iconst 5, 1) := by decide +kernel
theorem dX6_heat_114 : decode cX6_heat 114 = .ok (.iload_n 2, 1) := by decide +kernel
theorem dX6_heat_115 : decode cX6_heat 115 = .ok (.imul, 1) := by decide +kernel
theorem dX6_heat_116 : decode cX6_heat 116 = .ok (.iconst 4, 1) := by decide +kernel
theorem dX6_heat_117 : decode cX6_heat 117 = .ok (.iadd, 1) := by decide +kernel
theorem dX6_heat_118 : decode cX6_heat 118 = .ok (.if_icmp .ge 57, 3) := by decide +kernel
theorem dX6_heat_121 : decode cX6_heat 121 = .ok (.bipush 20, 2) := by decide +kernel
theorem dX6_heat_123 : decode cX6_heat 123 = .ok (.aload_n 0, 1) := by decide +kernel
theorem dX6_heat_124 : decode cX6_heat 124 = .ok (.getfield 40, 3) := by decide +kernel
theorem dX6_heat_127 : decode cX6_heat 127 = .ok (.iload 5, 2) := by decide +kernel
theorem dX6_heat_129 : decode cX6_heat 129 = .ok (.iaload, 1) := by decide +kernel
theorem dX6_heat_130 : decode cX6_heat 130 = .ok (.aload_n 0, 1) := by decide +kernel
theorem dX6_heat_131 : decode cX6_heat 131 = .ok (.getfield 40, 3) := by decide +kernel
theorem dX6_heat_134 : decode cX6_heat 134 = .ok (.iload 5, 2) := by decide +kernel
theorem dX6_heat_136 : decode cX6_heat 136 = .ok (.iconst 1, 1) := by decide +kernel
theorem dX6_heat_137 : decode cX6_heat 137 = .ok (.iadd, 1) := by decide +kernel
theorem dX6_heat_138 : decode cX6_heat 138 = .ok (.iaload, 1) := by decide +kernel
theorem dX6_heat_139 : decode cX6_heat 139 = .ok (.isub, 1) := by decide +kernel
theorem dX6_heat_140 : decode cX6_heat 140 = .ok (.imul, 1) := by decide +kernel
theorem dX6_heat_141 : decode cX6_heat 141 = .ok (.istore 6, 2) := by decide +kernel
theorem dX6_heat_143 : decode cX6_heat 143 = .ok (.aload_n 0, 1) := by decide +kernel
theorem dX6_heat_144 : decode cX6_heat 144 = .ok (.getfield 34, 3) := by decide +kernel
theorem dX6_heat_147 : decode cX6_heat 147 = .ok (.iload 5, 2) := by decide +kernel
theorem dX6_heat_149 : decode cX6_heat 149 = .ok (.dup2, 1) := by decide +kernel
theorem dX6_heat_150 : decode cX6_heat 150 = .ok (.iaload, 1) := by decide +kernel
theorem dX6_heat_151 : decode cX6_heat 151 = .ok (.iload 6, 2) := by decide +kernel
theorem dX6_heat_153 : decode cX6_heat 153 = .ok (.isub, 1) := by decide +kernel
theorem dX6_heat_154 : decode cX6_heat 154 = .ok (.iastore, 1) := by decide +kernel
theorem dX6_heat_155 : decode cX6_heat 155 = .ok (.aload_n 0, 1) := by decide +kernel
theorem dX6_heat_156 : decode cX6_heat 156 = .ok (.getfield 34, 3) := by decide +kernel
theorem dX6_heat_159 : decode cX6_heat 159 = .ok (.iload 5, 2) := by decide +kernel
theorem dX6_heat_161 : decode cX6_heat 161 = .ok (.iconst 1, 1) := by decide +kernel
theorem dX6_heat_162 : decode cX6_heat 162 = .ok (.iadd, 1) := by decide +kernel
theorem dX6_heat_163 : decode cX6_heat 163 = .ok (.dup2, 1) := by decide +kernel
theorem dX6_heat_164 : decode cX6_heat 164 = .ok (.iaload, 1) := by decide +kernel
theorem dX6_heat_165 : decode cX6_heat 165 = .ok (.iload 6, 2) := by decide +kernel
theorem dX6_heat_167 : decode cX6_heat 167 = .ok (.iadd, 1) := by decide +kernel
theorem dX6_heat_168 : decode cX6_heat 168 = .ok (.iastore, 1) := by decide +kernel
theorem dX6_heat_169 : decode cX6_heat 169 = .ok (.iinc 5 1, 3) := by decide +kernel
theorem dX6_heat_172 : decode cX6_heat 172 = .ok (.goto (-61), 3) := by decide +kernel
theorem dX6_heat_175 : decode cX6_heat 175 = .ok (.aload_n 0, 1) := by decide +kernel
theorem dX6_heat_176 : decode cX6_heat 176 = .ok (.iconst 5, 1) := by decide +kernel
theorem dX6_heat_177 : decode cX6_heat 177 = .ok (.iload_n 2, 1) := by decide +kernel
theorem dX6_heat_178 : decode cX6_heat 178 = .ok (.imul, 1) := by decide +kernel
theorem dX6_heat_179 : decode cX6_heat 179 = .ok (.iconst 4, 1) := by decide +kernel
theorem dX6_heat_180 : decode cX6_heat 180 = .ok (.iadd, 1) := by decide +kernel
theorem dX6_heat_181 : decode cX6_heat 181 = .ok (.bipush 10, 2) := by decide +kernel
theorem dX6_heat_183 : decode cX6_heat 183 = .ok (.invokevirtual 148, 3) := by decide +kernel
theorem dX6_heat_186 : decode cX6_heat 186 = .ok (.iinc 2 1, 3) := by decide +kernel
theorem dX6_heat_189 : decode cX6_heat 189 = .ok (.goto (-162), 3) := by decide +kernel
theorem dX6_heat_192 : decode cX6_heat 192 = .ok (.iconst 0, 1) := by decide +kernel
theorem dX6_heat_193 : decode cX6_heat 193 = .ok (.istore_n 2, 1) := by decide +kernel
theorem dX6_heat_194 : decode cX6_heat 194 = .ok (.iload_n 2, 1) := by decide +kernel
theorem dX6_heat_195 : decode cX6_heat 195 = .ok (.aload_n 0, 1) := by decide +kernel
theorem dX6_heat_196 : decode cX6_heat 196 = .ok (.getfield 132, 3) := by decide +kernel
theorem dX6_heat_199 : decode cX6_heat 199 = .ok (.if_icmp .ge 41, 3) := by decide +kernel
theorem dX6_heat_202 : decode cX6_heat 202 = .ok (.aload_n 0, 1) := by decide +kernel
theorem dX6_heat_203 : decode cX6_heat 203 = .ok (.iconst 5, 1) := by decide +kernel
theorem dX6_heat_204 : decode cX6_heat 204 = .ok (.aload_n 0, 1) := by decide +kernel
theorem dX6_heat_205 : decode cX6_heat 205 = .ok (.getfield 43, 3) := by decide +kernel
theorem dX6_heat_208 : decode cX6_heat 208 = .ok (.iload_n 2, 1) := by decide +kernel
theorem dX6_heat_209 : decode cX6_heat 209 = .ok (.iaload, 1) := by decide +kernel
theorem dX6_heat_210 : decode cX6_heat 210 = .ok (.imul, 1) := by decide +kernel
theorem dX6_heat_211 : decode cX6_heat 211 = .ok (.aload_n 0, 1) := by decide +kernel
theorem dX6_heat_212 : decode cX6_heat 212 = .ok (.getfield 49, 3) := by decide +kernel
theorem dX6_heat_215 : decode cX6_heat 215 = .ok (.iload_n 2, 1) := by decide +kernel
theorem dX6_heat_216 : decode cX6_heat 216 = .ok (.baload, 1) := by decide +kernel
theorem dX6_heat_217 : decode cX6_heat 217 = .ok (.ifCond .eq 11, 3) := by decide +kernel
theorem dX6_heat_220 : decode cX6_heat 220 = .ok (.iload_n 1, 1) := by decide +kernel
theorem dX6_heat_221 : decode cX6_heat 221 = .ok (.ifCond .ge 7, 3) := by decide +kernel
theorem dX6_heat_224 : decode cX6_heat 224 = .ok (.iconst 0, 1) := by decide +kernel
theorem dX6_heat_225 : decode cX6_heat 225 = .ok (.goto 6, 3) := by decide +kernel
theorem dX6_heat_228 : decode cX6_heat 228 = .ok (.sipush 300, 3) := by decide +kernel
theorem dX6_heat_231 : decode cX6_heat 231 = .ok (.invokevirtual 148, 3) := by decide +kernel
theorem dX6_heat_234 : decode cX6_heat 234 = .ok (.iinc 2 1, 3) := by decide +kernel
theorem dX6_heat_237 : decode cX6_heat 237 = .ok (.goto (-43), 3) := by decide +kernel
theorem dX6_heat_240 : decode cX6_heat 240 = .ok (.return_, 1) := by decide +kernel
