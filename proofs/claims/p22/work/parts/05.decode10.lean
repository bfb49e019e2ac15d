set_option maxRecDepth 20000 in
theorem wsL_refuses_r1_y : GoodIn wsL_law wsL_refuses_r1 := goodIn_r _ [8, 97, 87, 88, 89, 2, 90, 91, 347, 348, 83, 349, 95, 350, 351, 352, 353, 24, 102, 103, 104, 105, 106, 64] (by decide +kernel) (by decide +kernel)
set_option maxRecDepth 20000 in
theorem wsL_refuses_r2_y : GoodIn wsL_law wsL_refuses_r2 := goodIn_r _ [65, 66, 67, 16, 68, 69, 70, 30, 71, 72, 52, 73, 74, 75, 51, 76, 61, 62, 77, 78, 79, 80, 60, 63] (by decide +kernel) (by decide +kernel)
set_option maxRecDepth 20000 in
theorem wsL_refuses_r3_y : GoodIn wsL_law wsL_refuses_r3 := goodIn_r _ [354, 355, 356, 357, 358, 359, 25, 307, 308, 309, 273, 310, 311, 312, 313, 157, 314, 315, 158, 234, 281, 282, 283, 284] (by decide +kernel) (by decide +kernel)
set_option maxRecDepth 20000 in
theorem wsL_refuses_r4_y : GoodIn wsL_law wsL_refuses_r4 := goodIn_r _ [285, 316, 340, 341, 342, 343, 344, 345, 346, 233, 92, 93, 94, 96, 7, 98, 99, 100, 101, 107, 108, 109, 110, 111] (by decide +kernel) (by decide +kernel)
set_option maxRecDepth 20000 in
theorem wsL_refuses_r5_y : GoodIn wsL_law wsL_refuses_r5 := goodIn_r _ [112, 113, 114, 115, 116, 117, 118, 119, 120, 121, 122, 123, 124, 125, 126, 127, 128, 129, 130, 131, 132, 133, 134, 135] (by decide +kernel) (by decide +kernel)
set_option maxRecDepth 20000 in
theorem wsL_refuses_r6_y : GoodIn wsL_law wsL_refuses_r6 := goodIn_r _ [136, 54, 137, 138, 139, 140, 141, 142, 143, 144, 145, 146, 147, 148, 149, 150, 151, 152, 153, 20, 154, 155, 156, 159] (by decide +kernel) (by decide +kernel)
set_option maxRecDepth 20000 in
theorem wsL_refuses_r7_y : GoodIn wsL_law wsL_refuses_r7 := goodIn_r _ [160, 161, 19, 162, 163, 164, 165, 166, 167, 168, 169, 170, 171, 172, 173, 174, 175, 176, 177, 178, 179, 35, 180, 181] (by decide +kernel) (by decide +kernel)
set_option maxRecDepth 20000 in
theorem wsL_refuses_r8_y : GoodIn wsL_law wsL_refuses_r8 := goodIn_r _ [182, 183, 184, 185, 186, 187, 53, 188, 189, 190, 191, 192, 193, 194, 195, 196, 197, 198, 199, 200, 201, 202, 203, 204] (by decide +kernel) (by decide +kernel)
set_option maxRecDepth 20000 in
theorem wsL_refuses_r9_y : GoodIn wsL_law wsL_refuses_r9 := goodIn_r _ [205, 206, 207, 208, 209, 210, 211, 212, 213, 214, 215, 216, 217, 218, 219, 220, 221, 222, 223, 224, 225, 226, 227, 228] (by decide +kernel) (by decide +kernel)
set_option maxRecDepth 20000 in
theorem wsL_refuses_r10_y : GoodIn wsL_law wsL_refuses_r10 := goodIn_r _ [229, 230, 231, 232, 235, 236, 237, 238, 239, 240, 241, 242, 243, 244, 245, 246, 247, 248, 249, 250, 251, 252, 253, 254] (by decide +kernel) (by decide +kernel)
set_option maxRecDepth 20000 in
theorem wsL_refuses_r11_y : GoodIn wsL_law wsL_refuses_r11 := goodIn_r _ [255, 256, 257, 258, 21, 259, 260, 261, 262, 263, 264, 265, 266, 267, 268, 269, 333, 334, 335, 336, 337, 338, 339, 360] (by decide +kernel) (by decide +kernel)
set_option maxRecDepth 20000 in
theorem wsL_refuses_r12_y : GoodIn wsL_law wsL_refuses_r12 := goodIn_r _ [361, 362, 363, 364, 365, 366, 26, 286, 287, 288, 289, 290, 291, 292, 293, 28, 294, 295, 296, 297, 298, 299, 300, 301] (by decide +kernel) (by decide +kernel)
