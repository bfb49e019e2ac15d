set_option maxRecDepth 20000 in
theorem wsL_refuses_r13_y : GoodIn wsL_law wsL_refuses_r13 := goodIn_r _ [367, 368, 369, 370, 371, 372, 373, 280, 374, 375, 376, 377, 378, 379, 380, 13, 14, 381, 382, 383, 384, 385, 386, 387] (by decide +kernel) (by decide +kernel)
set_option maxRecDepth 20000 in
theorem wsL_refuses_r14_y : GoodIn wsL_law wsL_refuses_r14 := goodIn_r _ [388, 389, 390, 391, 392, 393, 394, 395, 396, 397, 398, 399, 400, 401, 402, 34, 403, 404, 405, 406, 407, 408, 409, 410] (by decide +kernel) (by decide +kernel)
set_option maxRecDepth 20000 in
theorem wsL_refuses_r15_y : GoodIn wsL_law wsL_refuses_r15 := goodIn_r _ [411, 412, 413, 414, 415, 416, 417, 418, 419, 420, 421, 422, 423, 424, 425, 426, 427, 428, 429, 430, 431, 461, 462, 463] (by decide +kernel) (by decide +kernel)
set_option maxRecDepth 20000 in
theorem wsL_refuses_r16_y : GoodIn wsL_law wsL_refuses_r16 := goodIn_r _ [464, 465, 466, 467, 468, 469, 470, 471, 472, 473, 474, 456, 475, 3, 476, 477, 478, 479, 480, 481, 482, 22, 483, 484] (by decide +kernel) (by decide +kernel)
set_option maxRecDepth 20000 in
theorem wsL_refuses_r17_y : GoodIn wsL_law wsL_refuses_r17 := goodIn_r _ [485, 440, 441, 442, 443, 444, 445, 446, 447, 439, 448, 449, 450, 451, 452, 453, 454, 455, 457, 458, 459, 460, 486, 487] (by decide +kernel) (by decide +kernel)
set_option maxRecDepth 20000 in
theorem wsL_refuses_r18_y : GoodIn wsL_law wsL_refuses_r18 := goodIn_r _ [488, 489, 490, 491, 492, 493, 494, 270, 271, 272, 274, 275, 276, 277, 278, 279, 302, 303, 304, 305, 306, 317, 318, 319] (by decide +kernel) (by decide +kernel)
set_option maxRecDepth 20000 in
theorem wsL_refuses_r19_y : GoodIn wsL_law wsL_refuses_r19 := goodIn_r _ [320, 321, 322, 323, 324, 325, 522, 523, 524, 525, 526, 527, 528, 432, 433, 434, 435, 436, 437, 438, 504, 505, 506, 507] (by decide +kernel) (by decide +kernel)
set_option maxRecDepth 20000 in
theorem wsL_refuses_r20_y : GoodIn wsL_law wsL_refuses_r20 := goodIn_r _ [508, 509, 510, 532, 533, 534, 535, 536, 537, 538, 502, 539, 540, 541, 326, 327, 328, 329, 330, 331, 332] (by decide +kernel) (by decide +kernel)
set_option maxRecDepth 20000 in
theorem wsR_wsX50_y : GoodIn wsL_law wsX50 := goodIn_sub (fun _ h => List.mem_append_left _ (List.mem_append_left _ (List.mem_append_left _ (List.mem_append_left _ (List.mem_append_left _ (List.mem_append_left _ (List.mem_append_left _ (List.mem_append_left _ (List.mem_append_left _ (List.mem_append_left _ (List.mem_append_right _ h))))))))))) (by decide +kernel)
set_option maxRecDepth 20000 in
theorem wsR_wsX10_y : GoodIn wsL_law wsX10 := goodIn_sub (fun _ h => List.mem_append_left _ (List.mem_append_left _ (List.mem_append_left _ (List.mem_append_left _ (List.mem_append_left _ (List.mem_append_left _ (List.mem_append_left _ (List.mem_append_left _ (List.mem_append_right _ h))))))))) (by decide +kernel)
set_option maxRecDepth 20000 in
theorem wsR_wsX40_y : GoodIn wsL_law wsX40 := goodIn_sub (fun _ h => List.mem_append_left _ (List.mem_append_left _ (List.mem_append_left _ (List.mem_append_left _ (List.mem_append_left _ (List.mem_append_left _ (List.mem_append_left _ (List.mem_append_right _ h)))))))) (by decide +kernel)
set_option maxRecDepth 20000 in
theorem wsR_wsX30_y : GoodIn wsL_law wsX30 := goodIn_sub (fun _ h => List.mem_append_left _ (List.mem_append_left _ (List.mem_append_left _ (List.mem_append_left _ (List.mem_append_left _ (List.mem_append_left _ (List.mem_append_right _ h))))))) (by decide +kernel)
set_option maxRecDepth 20000 in
theorem wsR_wsJx4a65c0_y : GoodIn wsL_law wsJx4a65c0 := goodIn_sub (fun _ h => List.mem_append_left _ (List.mem_append_left _ (List.mem_append_left _ (List.mem_append_left _ (List.mem_append_left _ (List.mem_append_left _ (List.mem_append_left _ (List.mem_append_left _ (List.mem_append_left _ (List.mem_append_right _ h)))))))))) (by decide +kernel)
set_option maxRecDepth 20000 in
theorem wsR_wsX00_y : GoodIn wsL_law wsX00 := goodIn_sub (fun _ h => List.mem_append_left _ (List.mem_append_left _ (List.mem_append_left _ (List.mem_append_left _ (List.mem_append_left _ (List.mem_append_right _ h)))))) (by decide +kernel)
set_option maxRecDepth 20000 in
theorem wsR_wsX20_y : GoodIn wsL_law wsX20 := goodIn_sub (fun _ h => List.mem_append_left _ (List.mem_append_left _ (List.mem_append_left _ (List.mem_append_left _ (List.mem_append_right _ h))))) (by decide +kernel)
theorem wsR_head : GoodIn wsL_law [Cond.code yL_refuses cL_refuses 5 (some .boolean)] := goodIn_r _ [552] (by decide +kernel) (by decide +kernel)
theorem ggL_law_L_refuses : GoodIn wsL_law wsL_refuses := goodIn_app wsR_head (goodIn_app (goodIn_app (goodIn_app (goodIn_app (goodIn_app (goodIn_app (goodIn_app (goodIn_app (goodIn_app (goodIn_app (goodIn_app wsL_refuses_r1_y (goodIn_app wsL_refuses_r2_y (goodIn_app wsL_refuses_r3_y (goodIn_app wsL_refuses_r4_y (goodIn_app wsL_refuses_r5_y (goodIn_app wsL_refuses_r6_y (goodIn_app wsL_refuses_r7_y (goodIn_app wsL_refuses_r8_y (goodIn_app wsL_refuses_r9_y (goodIn_app wsL_refuses_r10_y (goodIn_app wsL_refuses_r11_y (goodIn_app wsL_refuses_r12_y (goodIn_app wsL_refuses_r13_y (goodIn_app wsL_refuses_r14_y (goodIn_app wsL_refuses_r15_y (goodIn_app wsL_refuses_r16_y (goodIn_app wsL_refuses_r17_y (goodIn_app wsL_refuses_r18_y (goodIn_app wsL_refuses_r19_y wsL_refuses_r20_y))))))))))))))))))) wsR_wsX50_y) wsR_wsX10_y) wsR_wsX40_y) wsR_wsX30_y) wsR_wsJx4a65c0_y) wsR_wsX00_y) wsR_wsX20_y) (goodIn_sub (fun _ h => List.mem_append_left _ (List.mem_append_left _ (List.mem_append_right _ h))) (by decide +kernel))) (goodIn_sub (fun _ h => List.mem_append_right _ h) (by decide +kernel))) (goodIn_sub (fun _ h => List.mem_append_left _ (List.mem_append_right _ h)) (by decide +kernel)))
theorem gL_law_L_refuses : GoodIn wsL_law (va_wsS RL 161 yL_refuses wsL_refuses) := goodIn_app (goodIn_of _ (by decide +kernel)) ggL_law_L_refuses
