set_option maxRecDepth 20000 in
theorem ggL_law_X5_isFresh : GoodIn wsL_law wsX5_isFresh := goodIn_r _ [590, 144, 145, 143, 282, 283, 284, 5, 285, 137, 185, 186, 187, 191, 192, 193, 194, 195, 481, 482, 483, 484, 485, 486, 487, 488, 142, 489, 395, 396, 397, 398, 133, 136, 141, 139, 140, 135, 132, 399, 400, 401, 402, 138, 242, 243, 244, 245, 130, 223, 224, 225, 226, 131, 196, 197, 198, 490, 491, 492, 493, 494, 495, 496, 497, 498, 499, 500, 501, 502, 638, 639, 640, 641, 642, 643, 644, 645, 646, 647, 648, 649, 650, 651, 652, 653, 654, 655, 656, 657] (by decide +kernel) (by decide +kernel)
set_option maxRecDepth 20000 in
theorem gL_law_X5_isFresh : GoodIn wsL_law (wsV RL 155 RX5 yX5_isFresh wsX5_isFresh) := goodIn_app (goodIn_of _ (by decide +kernel)) ggL_law_X5_isFresh
set_option maxRecDepth 20000 in
theorem ggL_law_L_turn : GoodIn wsL_law wsL_turn := goodIn_ca (goodIn_ca (goodIn_r _ [593, 151, 206, 594, 595, 596, 2, 597, 211, 212, 598, 599, 253, 254, 255, 256, 159, 160, 20, 257, 258, 259, 260, 19, 261, 79, 262, 263, 264, 265, 266, 267, 268, 269, 270, 271, 272, 273, 274, 275, 276, 277, 39, 671, 672, 673, 674, 675, 676, 677, 635, 636, 637, 661, 662, 663] (by decide +kernel) (by decide +kernel)) (goodIn_sub (fun _ h => List.mem_append_left _ (List.mem_append_right _ h)) (by decide +kernel))) (goodIn_sub (fun _ h => List.mem_append_left _ (List.mem_append_left _ (List.mem_append_right _ h))) (by decide +kernel))
set_option maxRecDepth 20000 in
theorem gL_law_L_turn : GoodIn wsL_law (va_wsS RL 156 yL_turn wsL_turn) := goodIn_app (goodIn_of _ (by decide +kernel)) ggL_law_L_turn
set_option maxRecDepth 20000 in
theorem ggL_law_X5_turn : GoodIn wsL_law wsX5_turn := goodIn_r _ [603, 144, 146, 282, 283, 284, 5, 285, 137, 185, 186, 187, 191, 192, 193, 194, 195, 638, 639, 640, 641, 642, 643, 644, 645, 646, 647, 648, 649, 650, 651, 652, 653, 654, 655, 656, 657] (by decide +kernel) (by decide +kernel)
set_option maxRecDepth 20000 in
theorem gL_law_X5_turn : GoodIn wsL_law (wsV RL 158 RX5 yX5_turn wsX5_turn) := goodIn_app (goodIn_of _ (by decide +kernel)) ggL_law_X5_turn
set_option maxRecDepth 20000 in
theorem ggL_law_L_rightsNow : GoodIn wsL_law wsL_rightsNow := goodIn_ca (goodIn_r _ [606, 151, 607, 608, 609, 2, 610, 161, 162, 163, 159, 160, 253, 254, 255, 256, 20, 257, 258, 259, 260, 19, 261, 79, 262, 263, 264, 265, 266, 267, 268, 269, 270, 271, 272, 273, 274, 275, 276, 277, 39, 611, 612, 613, 614, 599, 615, 373, 374, 375, 376, 293, 320, 343, 377, 344, 378, 379, 380, 323, 381, 331, 382, 383, 384, 385, 386, 16, 234, 235, 236, 15, 237, 34, 214, 168, 169, 387, 388, 389, 27, 390, 67, 70, 635, 636, 637, 661, 662, 663, 671, 672, 673, 674, 675, 676, 677, 678, 679, 680, 681, 658, 659, 660] (by decide +kernel) (by decide +kernel)) (goodIn_sub (fun _ h => List.mem_append_left _ (List.mem_append_left _ (List.mem_append_right _ h))) (by decide +kernel))
set_option maxRecDepth 20000 in
theorem gL_law_L_rightsNow : GoodIn wsL_law (va_wsS RL 159 yL_rightsNow wsL_rightsNow) := goodIn_app (goodIn_of _ (by decide +kernel)) ggL_law_L_rightsNow
set_option maxRecDepth 20000 in
theorem ggL_law_X5_rightsNow : GoodIn wsL_law wsX5_rightsNow := goodIn_r _ [619, 188, 189, 5, 190, 185, 186, 187, 282, 283, 284, 285, 137, 191, 192, 193, 194, 195, 620, 621, 622, 623, 146, 145, 395, 396, 397, 398, 133, 136, 141, 139, 140, 135, 132, 399, 400, 401, 402, 138, 242, 243, 244, 245, 130, 223, 224, 225, 226, 131, 196, 197, 198, 638, 639, 640, 641, 642, 643, 644, 645, 646, 647, 648, 649, 650, 651, 652, 653, 654, 655, 656, 657] (by decide +kernel) (by decide +kernel)
set_option maxRecDepth 20000 in
theorem gL_law_X5_rightsNow : GoodIn wsL_law (wsV RL 161 RX5 yX5_rightsNow wsX5_rightsNow) := goodIn_app (goodIn_of _ (by decide +kernel)) ggL_law_X5_rightsNow
set_option maxRecDepth 20000 in
theorem ggL_law_L_gainers : GoodIn wsL_law wsL_gainers := goodIn_ca (goodIn_r _ [626, 151, 627, 628, 629, 2, 630, 253, 254, 255, 256, 159, 160, 20, 257, 258, 259, 260, 19, 261, 79, 262, 263, 264, 265, 266, 267, 268, 269, 270, 271, 272, 273, 274, 275, 276, 277, 39, 611, 612, 613, 614, 599, 615, 373, 374, 375, 376, 293, 320, 343, 377, 344, 378, 379, 380, 323, 381, 331, 382, 383, 384, 385, 386, 16, 234, 235, 236, 15, 237, 34, 214, 168, 169, 387, 388, 389, 27, 390, 67, 70, 635, 636, 637, 661, 662, 663, 671, 672, 673, 674, 675, 676, 677, 678, 679, 680, 681, 658, 659, 660] (by decide +kernel) (by decide +kernel)) (goodIn_sub (fun _ h => List.mem_append_left _ (List.mem_append_left _ (List.mem_append_right _ h))) (by decide +kernel))
set_option maxRecDepth 20000 in
theorem gL_law_L_gainers : GoodIn wsL_law (va_wsS RL 162 yL_gainers wsL_gainers) := goodIn_app (goodIn_of _ (by decide +kernel)) ggL_law_L_gainers
set_option maxRecDepth 20000 in
theorem ggL_law_X5_gainers : GoodIn wsL_law wsX5_gainers := goodIn_r _ [634, 282, 283, 284, 5, 285, 137, 185, 186, 187, 191, 192, 193, 194, 195, 620, 621, 622, 623, 146, 145, 395, 396, 397, 398, 133, 136, 141, 139, 140, 135, 132, 399, 400, 401, 402, 138, 242, 243, 244, 245, 130, 223, 224, 225, 226, 131, 196, 197, 198, 638, 639, 640, 641, 642, 643, 644, 645, 646, 647, 648, 649, 650, 651, 652, 653, 654, 655, 656, 657] (by decide +kernel) (by decide +kernel)
set_option maxRecDepth 20000 in
theorem gL_law_X5_gainers : GoodIn wsL_law (wsV RL 164 RX5 yX5_gainers wsX5_gainers) := goodIn_app (goodIn_of _ (by decide +kernel)) ggL_law_X5_gainers
