set_option maxRecDepth 20000 in
theorem ggL_law_X5_members : GoodIn wsL_law wsX5_members := goodIn_r _ [241, 182, 183, 5, 184, 185, 186, 187, 191, 192, 193, 194, 195, 242, 243, 244, 245, 130, 223, 224, 225, 226, 131, 196, 197, 198, 638, 639, 640, 641, 642, 643, 644, 645, 646, 647, 648, 649, 650, 651, 652, 653, 654, 655, 656, 657] (by decide +kernel) (by decide +kernel)
set_option maxRecDepth 20000 in
theorem gL_law_X5_members : GoodIn wsL_law (wsV RL 103 RX5 yX5_members wsX5_members) := goodIn_app (goodIn_of _ (by decide +kernel)) ggL_law_X5_members
set_option maxRecDepth 20000 in
theorem ggL_law_L_addFolder : GoodIn wsL_law wsL_addFolder := goodIn_ca (goodIn_ca (goodIn_r _ [248, 151, 206, 249, 250, 251, 2, 252, 211, 212, 20, 25, 26, 27, 253, 254, 255, 256, 159, 160, 257, 258, 259, 260, 19, 261, 79, 262, 263, 264, 265, 266, 267, 268, 269, 270, 271, 272, 273, 274, 275, 276, 277, 39, 161, 162, 163, 60, 61, 62, 63, 11, 12, 64, 18, 65, 31, 66, 67, 68, 69, 70, 71, 72, 36, 37, 38, 40, 41, 42, 43, 44, 45, 46, 47, 48, 49, 73, 74, 75, 76, 77, 78, 80, 81, 82, 83, 84, 85, 86, 87, 88, 89, 90, 91, 92, 93, 94, 95, 96, 97, 98, 99, 100, 101, 102, 103, 104, 105, 106, 107, 108, 109, 110, 111, 112, 113, 114, 115, 116, 117, 118, 119, 120, 121, 122, 123, 124, 125, 635, 636, 637, 671, 672, 673, 674, 675, 676, 677, 661, 662, 663] (by decide +kernel) (by decide +kernel)) (goodIn_sub (fun _ h => List.mem_append_left _ (List.mem_append_right _ h)) (by decide +kernel))) (goodIn_sub (fun _ h => List.mem_append_left _ (List.mem_append_left _ (List.mem_append_right _ h))) (by decide +kernel))
set_option maxRecDepth 20000 in
theorem gL_law_L_addFolder : GoodIn wsL_law (va_wsS RL 104 yL_addFolder wsL_addFolder) := goodIn_app (goodIn_of _ (by decide +kernel)) ggL_law_L_addFolder
set_option maxRecDepth 20000 in
theorem ggL_law_X5_addFolder : GoodIn wsL_law wsX5_addFolder := goodIn_r _ [281, 137, 132, 133, 135, 282, 283, 284, 5, 285, 185, 186, 187, 188, 189, 190, 191, 192, 193, 194, 195, 638, 639, 640, 641, 642, 643, 644, 645, 646, 647, 648, 649, 650, 651, 652, 653, 654, 655, 656, 657] (by decide +kernel) (by decide +kernel)
set_option maxRecDepth 20000 in
theorem gL_law_X5_addFolder : GoodIn wsL_law (wsV RL 106 RX5 yX5_addFolder wsX5_addFolder) := goodIn_app (goodIn_of _ (by decide +kernel)) ggL_law_X5_addFolder
set_option maxRecDepth 20000 in
theorem ggL_law_L_setOwner : GoodIn wsL_law wsL_setOwner := goodIn_ca (goodIn_r _ [288, 151, 289, 290, 291, 2, 292, 293, 253, 254, 255, 256, 159, 160, 20, 257, 258, 259, 260, 19, 261, 79, 262, 263, 264, 265, 266, 267, 268, 269, 270, 271, 272, 273, 274, 275, 276, 277, 39, 161, 162, 163, 671, 672, 673, 674, 675, 676, 677, 635, 636, 637, 661, 662, 663] (by decide +kernel) (by decide +kernel)) (goodIn_sub (fun _ h => List.mem_append_left _ (List.mem_append_left _ (List.mem_append_right _ h))) (by decide +kernel))
set_option maxRecDepth 20000 in
theorem gL_law_L_setOwner : GoodIn wsL_law (va_wsS RL 107 yL_setOwner wsL_setOwner) := goodIn_app (goodIn_of _ (by decide +kernel)) ggL_law_L_setOwner
set_option maxRecDepth 20000 in
theorem ggL_law_X5_setOwner : GoodIn wsL_law wsX5_setOwner := goodIn_r _ [297, 133, 282, 283, 284, 5, 285, 137, 185, 186, 187, 188, 189, 190, 191, 192, 193, 194, 195, 638, 639, 640, 641, 642, 643, 644, 645, 646, 647, 648, 649, 650, 651, 652, 653, 654, 655, 656, 657] (by decide +kernel) (by decide +kernel)
set_option maxRecDepth 20000 in
theorem gL_law_X5_setOwner : GoodIn wsL_law (wsV RL 109 RX5 yX5_setOwner wsX5_setOwner) := goodIn_app (goodIn_of _ (by decide +kernel)) ggL_law_X5_setOwner
set_option maxRecDepth 20000 in
theorem ggL_law_L_setInherits : GoodIn wsL_law wsL_setInherits := goodIn_ca (goodIn_r _ [300, 151, 301, 302, 303, 2, 304, 305, 253, 254, 255, 256, 159, 160, 20, 257, 258, 259, 260, 19, 261, 79, 262, 263, 264, 265, 266, 267, 268, 269, 270, 271, 272, 273, 274, 275, 276, 277, 39, 671, 672, 673, 674, 675, 676, 677, 635, 636, 637, 661, 662, 663] (by decide +kernel) (by decide +kernel)) (goodIn_sub (fun _ h => List.mem_append_left _ (List.mem_append_left _ (List.mem_append_right _ h))) (by decide +kernel))
set_option maxRecDepth 20000 in
theorem gL_law_L_setInherits : GoodIn wsL_law (va_wsS RL 110 yL_setInherits wsL_setInherits) := goodIn_app (goodIn_of _ (by decide +kernel)) ggL_law_L_setInherits
set_option maxRecDepth 20000 in
theorem ggL_law_X5_setInherits : GoodIn wsL_law wsX5_setInherits := goodIn_r _ [309, 135, 282, 283, 284, 5, 285, 137, 185, 186, 187, 191, 192, 193, 194, 195, 638, 639, 640, 641, 642, 643, 644, 645, 646, 647, 648, 649, 650, 651, 652, 653, 654, 655, 656, 657] (by decide +kernel) (by decide +kernel)
set_option maxRecDepth 20000 in
theorem gL_law_X5_setInherits : GoodIn wsL_law (wsV RL 113 RX5 yX5_setInherits wsX5_setInherits) := goodIn_app (goodIn_of _ (by decide +kernel)) ggL_law_X5_setInherits
set_option maxRecDepth 20000 in
theorem ggL_law_L_allow : GoodIn wsL_law wsL_allow := goodIn_ca (goodIn_ca (goodIn_ca (goodIn_r _ [312, 151, 313, 206, 314, 315, 316, 2, 317, 159, 160, 318, 319, 211, 212, 320, 321, 322, 323, 253, 254, 255, 256, 20, 257, 258, 259, 260, 19, 261, 79, 262, 263, 264, 265, 266, 267, 268, 269, 270, 271, 272, 273, 274, 275, 276, 277, 39, 324, 325, 326, 327, 11, 12, 328, 329, 330, 331, 73, 74, 75, 76, 77, 78, 80, 81, 82, 83, 84, 85, 86, 87, 88, 89, 90, 91, 38, 92, 93, 94, 95, 96, 97, 98, 99, 100, 101, 102, 103, 104, 105, 106, 107, 108, 109, 110, 111, 112, 113, 114, 115, 116, 117, 118, 119, 120, 121, 122, 123, 124, 125, 671, 672, 673, 674, 675, 676, 677, 678, 679, 680, 681, 635, 636, 637, 661, 662, 663] (by decide +kernel) (by decide +kernel)) (goodIn_sub (fun _ h => List.mem_append_left _ (List.mem_append_left _ (List.mem_append_right _ h))) (by decide +kernel))) (goodIn_sub (fun _ h => List.mem_append_right _ h) (by decide +kernel))) (goodIn_sub (fun _ h => List.mem_append_left _ (List.mem_append_right _ h)) (by decide +kernel))
set_option maxRecDepth 20000 in
theorem gL_law_L_allow : GoodIn wsL_law (va_wsS RL 114 yL_allow wsL_allow) := goodIn_app (goodIn_of _ (by decide +kernel)) ggL_law_L_allow
