set_option maxRecDepth 20000 in
theorem wsL_law0_r1_g : GoodIn lw_tbl wsL_law0_r1 := goodIn_r _ [47, 48, 26, 115, 765, 738, 766, 487, 325, 49, 50, 51, 52, 53, 54, 55, 162, 57, 58, 29, 163, 164, 165, 114] (by decide +kernel) (by decide +kernel)
set_option maxRecDepth 20000 in
theorem wsL_law0_r2_g : GoodIn lw_tbl wsL_law0_r2 := goodIn_r _ [167, 168, 170, 116, 171, 83, 30, 59, 60, 61, 69, 71, 62, 63, 28, 64, 73, 65, 66, 27, 67, 68, 85, 86] (by decide +kernel) (by decide +kernel)
set_option maxRecDepth 20000 in
theorem wsL_law0_r3_g : GoodIn lw_tbl wsL_law0_r3 := goodIn_r _ [87, 88, 90, 31, 117, 119, 125, 129, 91, 92, 93, 94, 95, 100, 103, 97, 146, 148, 0, 149, 150, 151, 152, 153] (by decide +kernel) (by decide +kernel)
set_option maxRecDepth 20000 in
theorem wsL_law0_r4_g : GoodIn lw_tbl wsL_law0_r4 := goodIn_r _ [121, 154, 155, 156, 157, 158, 159, 160, 161, 226, 227, 25, 228, 229, 230, 193, 194, 195, 196, 166, 334, 335, 336, 235] (by decide +kernel) (by decide +kernel)
set_option maxRecDepth 20000 in
theorem wsL_law0_r5_g : GoodIn lw_tbl wsL_law0_r5 := goodIn_r _ [337, 326, 338, 339, 340, 341, 306, 307, 308, 309, 35, 342, 343, 344, 345, 36, 360, 362, 6, 363, 364, 366, 7, 367] (by decide +kernel) (by decide +kernel)
set_option maxRecDepth 20000 in
theorem wsL_law0_r6_g : GoodIn lw_tbl wsL_law0_r6 := goodIn_r _ [123, 368, 369, 37, 370, 371, 373, 8, 374, 375, 376, 377, 378, 384, 385, 386, 124, 379, 380, 381, 382, 383, 223, 224] (by decide +kernel) (by decide +kernel)
set_option maxRecDepth 20000 in
theorem wsL_law0_r7_g : GoodIn lw_tbl wsL_law0_r7 := goodIn_r _ [225, 387, 388, 389, 390, 102, 391, 393, 9, 394, 413, 523, 519, 118, 101, 395, 396, 397, 398, 72, 399, 400, 401, 402] (by decide +kernel) (by decide +kernel)
set_option maxRecDepth 20000 in
theorem wsL_law0_r8_g : GoodIn lw_tbl wsL_law0_r8 := goodIn_r _ [403, 404, 38, 405, 406, 407, 39, 408, 409, 410, 411, 412, 414, 416, 10, 417, 418, 419, 420, 421, 422, 423, 424, 425] (by decide +kernel) (by decide +kernel)
set_option maxRecDepth 20000 in
theorem wsL_law0_r9_g : GoodIn lw_tbl wsL_law0_r9 := goodIn_r _ [430, 426, 427, 428, 429, 431, 432, 434, 11, 435, 122, 436, 438, 12, 439, 213, 215, 216, 217, 440, 441, 442, 443, 444] (by decide +kernel) (by decide +kernel)
set_option maxRecDepth 20000 in
theorem wsL_law0_r10_g : GoodIn lw_tbl wsL_law0_r10 := goodIn_r _ [446, 13, 447, 448, 449, 450, 451, 452, 453, 454, 455, 127, 99, 456, 458, 14, 459, 126, 104, 222, 460, 461, 462, 463] (by decide +kernel) (by decide +kernel)
set_option maxRecDepth 20000 in
theorem wsL_law0_r11_g : GoodIn lw_tbl wsL_law0_r11 := goodIn_r _ [464, 465, 466, 467, 468, 469, 471, 15, 472, 521, 527, 473, 474, 475, 476, 477, 479, 16, 480, 481, 606, 482, 483, 484] (by decide +kernel) (by decide +kernel)
set_option maxRecDepth 20000 in
theorem wsL_law0_r12_g : GoodIn lw_tbl wsL_law0_r12 := goodIn_r _ [45, 485, 610, 607, 609, 486, 672, 673, 674, 234, 675, 676, 677, 678, 120, 128, 130, 240, 241, 242, 243, 40, 502, 504] (by decide +kernel) (by decide +kernel)
set_option maxRecDepth 20000 in
theorem wsL_law0_r13_g : GoodIn lw_tbl wsL_law0_r13 := goodIn_r _ [17, 505, 201, 203, 1, 204, 205, 207, 2, 208, 209, 211, 3, 212, 679, 680, 681, 682, 683, 231, 232, 233, 236, 237] (by decide +kernel) (by decide +kernel)
set_option maxRecDepth 20000 in
theorem wsL_law0_r14_g : GoodIn lw_tbl wsL_law0_r14 := goodIn_r _ [238, 239, 96, 98, 324, 684, 685, 686, 687, 688, 689, 690, 691, 692, 726, 727, 728, 729, 730, 731, 732, 488, 489, 490] (by decide +kernel) (by decide +kernel)
set_option maxRecDepth 20000 in
theorem wsL_law0_r15_g : GoodIn lw_tbl wsL_law0_r15 := goodIn_r _ [491, 492, 493, 494, 327, 328, 329, 330, 331, 332, 333, 714, 715, 716, 717, 718, 719, 720, 721, 723, 24, 724, 725, 169] (by decide +kernel) (by decide +kernel)
set_option maxRecDepth 20000 in
theorem wsL_law0_r16_g : GoodIn lw_tbl wsL_law0_r16 := goodIn_r _ [495, 496, 497, 498, 499, 500, 501, 506, 507, 508, 509, 510, 511, 512, 413, 513, 41, 514, 515, 516, 517, 518, 520, 522] (by decide +kernel) (by decide +kernel)
set_option maxRecDepth 20000 in
theorem wsL_law0_r17_g : GoodIn lw_tbl wsL_law0_r17 := goodIn_r _ [524, 539, 540, 541, 542, 74, 75, 543, 545, 18, 546, 547, 549, 19, 550, 551, 553, 20, 554, 590, 591, 555, 556, 42] (by decide +kernel) (by decide +kernel)
set_option maxRecDepth 20000 in
theorem wsL_law0_r18_g : GoodIn lw_tbl wsL_law0_r18 := goodIn_r _ [557, 558, 559, 560, 561, 562, 563, 564, 43, 565, 566, 780, 567, 579, 580, 581, 582, 583, 585, 586, 587, 589, 588, 44] (by decide +kernel) (by decide +kernel)
set_option maxRecDepth 20000 in
theorem wsL_law0_r19_g : GoodIn lw_tbl wsL_law0_r19 := goodIn_r _ [693, 694, 695, 696, 697, 698, 699, 525, 631, 633, 21, 634, 635, 637, 22, 638, 639, 641, 23, 642, 643, 644, 645, 646] (by decide +kernel) (by decide +kernel)
set_option maxRecDepth 20000 in
theorem wsL_law0_r20_g : GoodIn lw_tbl wsL_law0_r20 := goodIn_r _ [608, 647, 648, 649, 650, 592, 593, 594, 595, 596, 597, 598, 481, 599, 600, 601, 602, 603, 605, 604, 622, 623, 624, 625] (by decide +kernel) (by decide +kernel)
set_option maxRecDepth 20000 in
theorem wsL_law0_r21_g : GoodIn lw_tbl wsL_law0_r21 := goodIn_r _ [626, 627, 628, 629, 630, 46, 651, 652, 653, 654, 655, 526, 657, 659, 661, 707, 708, 709, 710, 711, 712, 713, 629, 662] (by decide +kernel) (by decide +kernel)
set_option maxRecDepth 20000 in
theorem wsL_law0_r22_g : GoodIn lw_tbl wsL_law0_r22 := goodIn_r _ [700, 701, 702, 703, 704, 705, 706, 733, 734, 735, 736, 737, 739, 740, 741, 742, 743, 744, 745, 746, 747, 748, 749, 750] (by decide +kernel) (by decide +kernel)
set_option maxRecDepth 20000 in
theorem wsL_law0_r23_g : GoodIn lw_tbl wsL_law0_r23 := goodIn_r _ [751, 752, 753, 754, 755, 756, 757, 758, 759, 760, 761, 656, 658, 660, 197, 198, 199, 200, 218, 220, 4, 221, 762, 763] (by decide +kernel) (by decide +kernel)
set_option maxRecDepth 20000 in
theorem wsL_law0_r24_g : GoodIn lw_tbl wsL_law0_r24 := goodIn_r _ [764] (by decide +kernel) (by decide +kernel)
set_option maxRecDepth 20000 in
theorem wsX50_g : ∀ w ∈ wsX50, w ∈ lw_tbl := by decide +kernel
set_option maxRecDepth 20000 in
theorem wsJx4a65c0_g : ∀ w ∈ wsJx4a65c0, w ∈ lw_tbl := by decide +kernel
set_option maxRecDepth 20000 in
theorem wsX10_g : ∀ w ∈ wsX10, w ∈ lw_tbl := by decide +kernel
set_option maxRecDepth 20000 in
theorem wsX40_g : ∀ w ∈ wsX40, w ∈ lw_tbl := by decide +kernel
set_option maxRecDepth 20000 in
theorem wsX30_g : ∀ w ∈ wsX30, w ∈ lw_tbl := by decide +kernel
set_option maxRecDepth 20000 in
theorem wsX00_g : ∀ w ∈ wsX00, w ∈ lw_tbl := by decide +kernel
set_option maxRecDepth 20000 in
theorem wsX20_g : ∀ w ∈ wsX20, w ∈ lw_tbl := by decide +kernel
set_option maxRecDepth 20000 in
theorem wsL_law_in0 : ∀ w ∈ wsL_law0, w ∈ lw_tbl := (List.forall_mem_append.mpr ⟨(List.forall_mem_append.mpr ⟨(List.forall_mem_append.mpr ⟨(List.forall_mem_append.mpr ⟨(List.forall_mem_append.mpr ⟨(List.forall_mem_append.mpr ⟨(List.forall_mem_append.mpr ⟨(List.forall_mem_append.mpr ⟨(fun w h => ((goodIn_app wsL_law0_r1_g (goodIn_app wsL_law0_r2_g (goodIn_app wsL_law0_r3_g (goodIn_app wsL_law0_r4_g (goodIn_app wsL_law0_r5_g (goodIn_app wsL_law0_r6_g (goodIn_app wsL_law0_r7_g (goodIn_app wsL_law0_r8_g (goodIn_app wsL_law0_r9_g (goodIn_app wsL_law0_r10_g (goodIn_app wsL_law0_r11_g (goodIn_app wsL_law0_r12_g (goodIn_app wsL_law0_r13_g (goodIn_app wsL_law0_r14_g (goodIn_app wsL_law0_r15_g (goodIn_app wsL_law0_r16_g (goodIn_app wsL_law0_r17_g (goodIn_app wsL_law0_r18_g (goodIn_app wsL_law0_r19_g (goodIn_app wsL_law0_r20_g (goodIn_app wsL_law0_r21_g (goodIn_app wsL_law0_r22_g (goodIn_app wsL_law0_r23_g (wsL_law0_r24_g)))))))))))))))))))))))) w h).1), wsX50_g⟩), wsJx4a65c0_g⟩), wsX10_g⟩), wsX40_g⟩), wsX30_g⟩), wsX00_g⟩), wsX20_g⟩), fun _ h => absurd h List.not_mem_nil⟩)
theorem wsL_law_x0 : ∀ w ∈ (vx_at0 RX5 209 "java/lang/IllegalArgumentException" ["java/lang/RuntimeException", "java/lang/Exception"]).filter goodWord, w ∈ lw_tbl := by decide +kernel
theorem wsL_law_x1 : ∀ w ∈ (vx_at0 RX5 212 "java/lang/IllegalStateException" ["java/lang/RuntimeException", "java/lang/Exception"]).filter goodWord, w ∈ lw_tbl := by decide +kernel
theorem wsL_law_x2 : ∀ w ∈ (vx_at0 RX5 162 "java/lang/IndexOutOfBoundsException" ["java/lang/RuntimeException", "java/lang/Exception"]).filter goodWord, w ∈ lw_tbl := by decide +kernel
theorem wsL_law_in : ∀ w ∈ wsL_law, w ∈ lw_tbl := fun w h => (List.mem_append.mp h).elim (fun h => (List.mem_append.mp h).elim (fun h => (List.mem_append.mp h).elim (fun h => wsL_law_in0 w h) (fun h => wsL_law_x0 w h)) (fun h => wsL_law_x1 w h)) (fun h => wsL_law_x2 w h)
theorem inlX0 : ∀ w ∈ wsX00, w ∈ wsL_law := fun _ h => List.mem_append_left _ (List.mem_append_left _ (List.mem_append_left _ (List.mem_append_left _ (List.mem_append_left _ (List.mem_append_right _ h)))))
theorem inX0 : ∀ w ∈ wsX00, w ∈ lw_tbl := fun w h => wsL_law_in w (inlX0 w h)
theorem inlX1 : ∀ w ∈ wsX10, w ∈ wsL_law := fun _ h => List.mem_append_left _ (List.mem_append_left _ (List.mem_append_left _ (List.mem_append_left _ (List.mem_append_left _ (List.mem_append_left _ (List.mem_append_left _ (List.mem_append_left _ (List.mem_append_right _ h))))))))
theorem inX1 : ∀ w ∈ wsX10, w ∈ lw_tbl := fun w h => wsL_law_in w (inlX1 w h)
theorem inlX2 : ∀ w ∈ wsX20, w ∈ wsL_law := fun _ h => List.mem_append_left _ (List.mem_append_left _ (List.mem_append_left _ (List.mem_append_left _ (List.mem_append_right _ h))))
theorem inX2 : ∀ w ∈ wsX20, w ∈ lw_tbl := fun w h => wsL_law_in w (inlX2 w h)
theorem inlX3 : ∀ w ∈ wsX30, w ∈ wsL_law := fun _ h => List.mem_append_left _ (List.mem_append_left _ (List.mem_append_left _ (List.mem_append_left _ (List.mem_append_left _ (List.mem_append_left _ (List.mem_append_right _ h))))))
theorem inX3 : ∀ w ∈ wsX30, w ∈ lw_tbl := fun w h => wsL_law_in w (inlX3 w h)
theorem inlX4 : ∀ w ∈ wsX40, w ∈ wsL_law := fun _ h => List.mem_append_left _ (List.mem_append_left _ (List.mem_append_left _ (List.mem_append_left _ (List.mem_append_left _ (List.mem_append_left _ (List.mem_append_left _ (List.mem_append_right _ h)))))))
theorem inX4 : ∀ w ∈ wsX40, w ∈ lw_tbl := fun w h => wsL_law_in w (inlX4 w h)
theorem inlX5 : ∀ w ∈ wsX50, w ∈ wsL_law := fun _ h => List.mem_append_left _ (List.mem_append_left _ (List.mem_append_left _ (List.mem_append_left _ (List.mem_append_left _ (List.mem_append_left _ (List.mem_append_left _ (List.mem_append_left _ (List.mem_append_left _ (List.mem_append_left _ (List.mem_append_right _ h))))))))))
theorem inX5 : ∀ w ∈ wsX50, w ∈ lw_tbl := fun w h => wsL_law_in w (inlX5 w h)
theorem inX6 : ∀ w ∈ wsX60, w ∈ lw_tbl := by decide +kernel
theorem inJx145de : ∀ w ∈ wsJx145de0, w ∈ lw_tbl := by decide +kernel
theorem inJx8e188 : ∀ w ∈ wsJx8e1880, w ∈ lw_tbl := by decide +kernel
theorem inJxab1ab : ∀ w ∈ wsJxab1ab0, w ∈ lw_tbl := by decide +kernel
theorem inJ9 : ∀ w ∈ wsJ90, w ∈ lw_tbl := by decide +kernel
theorem inJ10 : ∀ w ∈ wsJ100, w ∈ lw_tbl := by decide +kernel
theorem inJxa1e45 : ∀ w ∈ wsJxa1e450, w ∈ lw_tbl := by decide +kernel
theorem inJxc12de : ∀ w ∈ wsJxc12de0, w ∈ lw_tbl := by decide +kernel
theorem inlJx4a65c : ∀ w ∈ wsJx4a65c0, w ∈ wsL_law := fun _ h => List.mem_append_left _ (List.mem_append_left _ (List.mem_append_left _ (List.mem_append_left _ (List.mem_append_left _ (List.mem_append_left _ (List.mem_append_left _ (List.mem_append_left _ (List.mem_append_left _ (List.mem_append_right _ h)))))))))
theorem inJx4a65c : ∀ w ∈ wsJx4a65c0, w ∈ lw_tbl := fun w h => wsL_law_in w (inlJx4a65c w h)
theorem inJ7 : ∀ w ∈ wsJ70, w ∈ lw_tbl := by decide +kernel
theorem inJx5ef63 : ∀ w ∈ wsJx5ef630, w ∈ lw_tbl := by decide +kernel
theorem inJxbd725 : ∀ w ∈ wsJxbd7250, w ∈ lw_tbl := by decide +kernel
theorem inJ15 : ∀ w ∈ wsJ150, w ∈ lw_tbl := by decide +kernel
theorem inJxf0a74 : ∀ w ∈ wsJxf0a740, w ∈ lw_tbl := by decide +kernel
theorem inJxa66e6 : ∀ w ∈ wsJxa66e60, w ∈ lw_tbl := by decide +kernel
theorem inJ8 : ∀ w ∈ wsJ80, w ∈ lw_tbl := by decide +kernel
theorem inJ3 : ∀ w ∈ wsJ30, w ∈ lw_tbl := by decide +kernel
