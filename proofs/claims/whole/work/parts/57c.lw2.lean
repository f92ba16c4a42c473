set_option maxRecDepth 20000 in
theorem ggL_law_X5_allow : GoodIn wsL_law wsX5_allow := goodIn_r _ [335, 136, 138, 139, 140, 141, 282, 283, 284, 5, 285, 137, 185, 186, 187, 191, 192, 193, 194, 195, 638, 639, 640, 641, 642, 643, 644, 645, 646, 647, 648, 649, 650, 651, 652, 653, 654, 655, 656, 657] (by decide +kernel) (by decide +kernel)
set_option maxRecDepth 20000 in
theorem gL_law_X5_allow : GoodIn wsL_law (wsV RL 117 RX5 yX5_allow wsX5_allow) := goodIn_app (goodIn_of _ (by decide +kernel)) ggL_law_X5_allow
set_option maxRecDepth 20000 in
theorem ggL_law_L_drop : GoodIn wsL_law wsL_drop := goodIn_ca (goodIn_r _ [338, 151, 339, 340, 341, 2, 342, 159, 160, 320, 343, 344, 253, 254, 255, 256, 20, 257, 258, 259, 260, 19, 261, 79, 262, 263, 264, 265, 266, 267, 268, 269, 270, 271, 272, 273, 274, 275, 276, 277, 39, 345, 346, 347, 348, 349, 350, 351, 352, 77, 78, 353, 123, 124, 125, 671, 672, 673, 674, 675, 676, 677, 678, 679, 680, 681, 635, 636, 637, 661, 662, 663] (by decide +kernel) (by decide +kernel)) (goodIn_sub (fun _ h => List.mem_append_left _ (List.mem_append_left _ (List.mem_append_right _ h))) (by decide +kernel))
set_option maxRecDepth 20000 in
theorem gL_law_L_drop : GoodIn wsL_law (va_wsS RL 118 yL_drop wsL_drop) := goodIn_app (goodIn_of _ (by decide +kernel)) ggL_law_L_drop
set_option maxRecDepth 20000 in
theorem ggL_law_X5_drop : GoodIn wsL_law wsX5_drop := goodIn_r _ [357, 136, 140, 138, 139, 141, 282, 283, 284, 5, 285, 137, 185, 186, 187, 191, 192, 193, 194, 195, 638, 639, 640, 641, 642, 643, 644, 645, 646, 647, 648, 649, 650, 651, 652, 653, 654, 655, 656, 657] (by decide +kernel) (by decide +kernel)
set_option maxRecDepth 20000 in
theorem gL_law_X5_drop : GoodIn wsL_law (wsV RL 120 RX5 yX5_drop wsX5_drop) := goodIn_app (goodIn_of _ (by decide +kernel)) ggL_law_X5_drop
set_option maxRecDepth 20000 in
theorem ggL_law_X4_folders : GoodIn wsL_law wsX4_folders := goodIn_r _ [361, 20, 258, 259, 260, 19, 261, 79, 635, 636, 637, 661, 662, 663] (by decide +kernel) (by decide +kernel)
set_option maxRecDepth 20000 in
theorem gL_law_X4_folders : GoodIn wsL_law (wsV RL 121 RX4 yX4_folders wsX4_folders) := goodIn_app (goodIn_of _ (by decide +kernel)) ggL_law_X4_folders
set_option maxRecDepth 20000 in
theorem ggL_law_X5_folders : GoodIn wsL_law wsX5_folders := goodIn_r _ [365, 195, 137, 638, 639, 640, 641, 642, 643, 644, 645, 646, 647, 648, 649, 650, 651, 652, 653, 654, 655, 656, 657] (by decide +kernel) (by decide +kernel)
set_option maxRecDepth 20000 in
theorem gL_law_X5_folders : GoodIn wsL_law (wsV RL 124 RX5 yX5_folders wsX5_folders) := goodIn_app (goodIn_of _ (by decide +kernel)) ggL_law_X5_folders
set_option maxRecDepth 20000 in
theorem ggL_law_L_rights : GoodIn wsL_law wsL_rights := goodIn_ca (goodIn_r _ [368, 151, 369, 370, 371, 2, 372, 161, 162, 163, 159, 160, 253, 254, 255, 256, 20, 257, 258, 259, 260, 19, 261, 79, 262, 263, 264, 265, 266, 267, 268, 269, 270, 271, 272, 273, 274, 275, 276, 277, 39, 373, 374, 375, 376, 293, 320, 343, 377, 344, 378, 379, 380, 323, 381, 331, 382, 383, 384, 385, 386, 16, 234, 235, 236, 15, 237, 34, 214, 168, 169, 387, 388, 389, 27, 390, 67, 70, 635, 636, 637, 661, 662, 663, 671, 672, 673, 674, 675, 676, 677, 678, 679, 680, 681, 658, 659, 660] (by decide +kernel) (by decide +kernel)) (goodIn_sub (fun _ h => List.mem_append_left _ (List.mem_append_left _ (List.mem_append_right _ h))) (by decide +kernel))
set_option maxRecDepth 20000 in
theorem gL_law_L_rights : GoodIn wsL_law (va_wsS RL 125 yL_rights wsL_rights) := goodIn_app (goodIn_of _ (by decide +kernel)) ggL_law_L_rights
set_option maxRecDepth 20000 in
theorem ggL_law_X5_rights : GoodIn wsL_law wsX5_rights := goodIn_r _ [394, 188, 189, 5, 190, 185, 186, 187, 282, 283, 284, 285, 137, 191, 192, 193, 194, 195, 395, 396, 397, 398, 133, 136, 141, 139, 140, 135, 132, 399, 400, 401, 402, 138, 242, 243, 244, 245, 130, 223, 224, 225, 226, 131, 196, 197, 198, 638, 639, 640, 641, 642, 643, 644, 645, 646, 647, 648, 649, 650, 651, 652, 653, 654, 655, 656, 657] (by decide +kernel) (by decide +kernel)
set_option maxRecDepth 20000 in
theorem gL_law_X5_rights : GoodIn wsL_law (wsV RL 127 RX5 yX5_rights wsX5_rights) := goodIn_app (goodIn_of _ (by decide +kernel)) ggL_law_X5_rights
set_option maxRecDepth 20000 in
theorem ggL_law_L_rightsBackwards : GoodIn wsL_law wsL_rightsBackwards := goodIn_ca (goodIn_r _ [405, 151, 406, 407, 408, 2, 409, 161, 162, 163, 159, 160, 253, 254, 255, 256, 20, 257, 258, 259, 260, 19, 261, 79, 262, 263, 264, 265, 266, 267, 268, 269, 270, 271, 272, 273, 274, 275, 276, 277, 39, 410, 411, 412, 413, 293, 320, 343, 377, 344, 414, 415, 416, 27, 417, 418, 388, 389, 390, 67, 70, 419, 420, 421, 422, 378, 379, 380, 323, 381, 331, 382, 383, 384, 385, 386, 16, 234, 235, 236, 15, 237, 34, 214, 168, 169, 635, 636, 637, 661, 662, 663, 671, 672, 673, 674, 675, 676, 677, 678, 679, 680, 681, 658, 659, 660] (by decide +kernel) (by decide +kernel)) (goodIn_sub (fun _ h => List.mem_append_left _ (List.mem_append_left _ (List.mem_append_right _ h))) (by decide +kernel))
set_option maxRecDepth 20000 in
theorem gL_law_L_rightsBackwards : GoodIn wsL_law (va_wsS RL 128 yL_rightsBackwards wsL_rightsBackwards) := goodIn_app (goodIn_of _ (by decide +kernel)) ggL_law_L_rightsBackwards
