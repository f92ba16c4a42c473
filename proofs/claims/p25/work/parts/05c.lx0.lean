set_option maxRecDepth 100000 in
theorem lgw_does_c : GoodIn wsL_law [.code yL_does cL_does 8 (some .boolean)] := goodIn_r _ [138] (by decide +kernel) (by decide +kernel)
set_option maxRecDepth 100000 in
theorem lgw_wsL_does_r1 : GoodIn wsL_law wsL_does_r1 := goodIn_r _ [122, 123, 124, 2, 125, 16, 126, 127, 128, 15, 129, 75, 139, 140, 141, 142, 143, 144, 21, 22, 23, 145, 146, 147] (by decide +kernel) (by decide +kernel)
set_option maxRecDepth 100000 in
theorem lgw_wsL_does_r2 : GoodIn wsL_law wsL_does_r2 := goodIn_r _ [148, 149, 150, 151, 152, 153, 154, 155, 156, 157, 158, 159, 160, 161, 162, 163, 164, 165, 166, 167, 35, 168, 169, 170] (by decide +kernel) (by decide +kernel)
set_option maxRecDepth 100000 in
theorem lgw_wsL_does_r3 : GoodIn wsL_law wsL_does_r3 := goodIn_r _ [56, 57, 58, 59, 7, 8, 60, 14, 61, 27, 62, 63, 64, 65, 66, 67, 68, 32, 33, 34, 36, 37, 38, 39] (by decide +kernel) (by decide +kernel)
set_option maxRecDepth 100000 in
theorem lgw_wsL_does_r4 : GoodIn wsL_law wsL_does_r4 := goodIn_r _ [40, 41, 42, 43, 44, 45, 69, 70, 71, 72, 73, 74, 76, 77, 78, 79, 80, 81, 82, 83, 84, 85, 86, 87] (by decide +kernel) (by decide +kernel)
set_option maxRecDepth 100000 in
theorem lgw_wsL_does_r5 : GoodIn wsL_law wsL_does_r5 := goodIn_r _ [88, 89, 90, 91, 92, 93, 94, 95, 96, 97, 98, 99, 100, 101, 102, 103, 104, 105, 106, 107, 108, 109, 110, 111] (by decide +kernel) (by decide +kernel)
set_option maxRecDepth 100000 in
theorem lgw_wsL_does_r6 : GoodIn wsL_law wsL_does_r6 := goodIn_r _ [112, 113, 114, 115, 116, 117, 118, 119, 120, 121, 171, 172, 173, 174, 12, 175, 176, 177, 178, 179, 180, 11, 181, 28] (by decide +kernel) (by decide +kernel)
set_option maxRecDepth 100000 in
theorem lgw_wsL_does_r7 : GoodIn wsL_law wsL_does_r7 := goodIn_r _ [182, 183, 184, 185, 186, 187, 30, 188, 189, 190, 191, 29, 192, 193, 194, 195, 196, 197, 198, 199, 200, 201, 202, 203] (by decide +kernel) (by decide +kernel)
set_option maxRecDepth 100000 in
theorem lgw_wsL_does_r8 : GoodIn wsL_law wsL_does_r8 := goodIn_r _ [204, 205, 206, 207, 208, 209, 210, 211, 212, 213, 214, 215, 216, 217, 218, 219, 220, 221, 222, 223, 224, 225, 226, 227] (by decide +kernel) (by decide +kernel)
set_option maxRecDepth 100000 in
theorem lgw_wsL_does_r9 : GoodIn wsL_law wsL_does_r9 := goodIn_r _ [228, 229, 230, 231, 232, 233, 234, 235, 236, 237, 238, 239, 240, 241, 242, 243, 244, 245, 246, 247, 248, 132, 249, 250] (by decide +kernel) (by decide +kernel)
set_option maxRecDepth 100000 in
theorem lgw_wsL_does_r10 : GoodIn wsL_law wsL_does_r10 := goodIn_r _ [251, 252, 253, 254, 255, 256, 257, 258, 20, 259, 260, 261, 262, 263, 264, 265, 266, 267, 268, 269, 270, 271, 19, 272] (by decide +kernel) (by decide +kernel)
set_option maxRecDepth 100000 in
theorem lgw_wsL_does_r11 : GoodIn wsL_law wsL_does_r11 := goodIn_r _ [51, 54, 55, 273, 274, 275, 276, 52, 53, 50, 49, 277, 278, 279, 280, 281, 282, 283, 284, 285, 286, 287, 288, 289] (by decide +kernel) (by decide +kernel)
set_option maxRecDepth 100000 in
theorem lgw_wsL_does_r12 : GoodIn wsL_law wsL_does_r12 := goodIn_r _ [290, 291, 292, 293, 294, 295, 296, 297, 298, 299, 300, 301, 302, 303, 304, 305, 306, 307, 308, 309, 310, 311, 312, 313] (by decide +kernel) (by decide +kernel)
set_option maxRecDepth 100000 in
theorem lgw_wsL_does_r13 : GoodIn wsL_law wsL_does_r13 := goodIn_r _ [314, 315, 316, 317, 318, 319, 320, 321, 322, 323, 324, 325, 326, 327, 328, 329, 330, 331, 332, 333, 334, 335, 336, 337] (by decide +kernel) (by decide +kernel)
set_option maxRecDepth 100000 in
theorem lgw_wsL_does_r14 : GoodIn wsL_law wsL_does_r14 := goodIn_r _ [338, 339, 340, 341, 342, 343, 344, 345, 346, 347, 348, 349, 350, 351, 352, 353, 354, 355, 356, 357, 358, 359, 360] (by decide +kernel) (by decide +kernel)
