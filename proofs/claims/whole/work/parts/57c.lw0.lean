set_option maxRecDepth 20000 in
theorem ggL_law_X4_init : GoodIn wsL_law wsX4_init := goodIn_r _ [9, 10, 11, 12, 13, 14, 15, 16, 17, 18, 19, 20, 21, 22, 23, 24, 25, 26, 27, 28, 29, 30, 31, 32, 33, 34, 35, 36, 37, 38, 39, 40, 41, 42, 43, 44, 45, 46, 47, 48, 49, 50, 51, 52, 53, 54, 55, 56, 57, 58, 59, 60, 61, 62, 63, 64, 65, 66, 67, 68, 69, 70, 71, 72, 73, 74, 75, 76, 77, 78, 79, 80, 81, 82, 83, 84, 85, 86, 87, 88, 89, 90, 91, 92, 93, 94, 95, 96, 97, 98, 99, 100, 101, 102, 103, 104, 105, 106, 107, 108, 109, 110, 111, 112, 113, 114, 115, 116, 117, 118, 119, 120, 121, 122, 123, 124, 125, 658, 659, 660, 635, 636, 637, 661, 662, 663, 664, 665, 666, 667, 668, 669, 670, 671, 672, 673, 674, 675, 676, 677] (by decide +kernel) (by decide +kernel)
set_option maxRecDepth 20000 in
theorem gL_law_X4_init : GoodIn wsL_law (wsX4_init) := ggL_law_X4_init
set_option maxRecDepth 20000 in
theorem ggL_law_X5_init : GoodIn wsL_law wsX5_init := goodIn_r _ [128, 129, 11, 12, 31, 130, 131, 132, 133, 134, 135, 136, 137, 138, 139, 140, 141, 142, 143, 144, 145, 146, 638, 639, 640, 641, 642, 643, 644, 645, 646, 647, 648, 649, 650, 651, 652, 653, 654, 655, 656, 657] (by decide +kernel) (by decide +kernel)
set_option maxRecDepth 20000 in
theorem gL_law_X5_init : GoodIn wsL_law (wsX5_init) := ggL_law_X5_init
set_option maxRecDepth 20000 in
theorem ggL_law_L_setMember : GoodIn wsL_law wsL_setMember := goodIn_ca (goodIn_r _ [150, 151, 152, 153, 154, 2, 155, 16, 156, 157, 158, 159, 160, 161, 162, 163, 164, 165, 166, 15, 167, 32, 168, 169, 170, 171, 172, 173, 34, 174, 175, 176, 177, 33, 635, 636, 637, 658, 659, 660] (by decide +kernel) (by decide +kernel)) (goodIn_sub (fun _ h => List.mem_append_left _ (List.mem_append_left _ (List.mem_append_right _ h))) (by decide +kernel))
set_option maxRecDepth 20000 in
theorem gL_law_L_setMember : GoodIn wsL_law (va_wsS RL 86 yL_setMember wsL_setMember) := goodIn_app (goodIn_of _ (by decide +kernel)) ggL_law_L_setMember
set_option maxRecDepth 20000 in
theorem ggL_law_X5_setMember : GoodIn wsL_law wsX5_setMember := goodIn_r _ [181, 130, 182, 183, 5, 184, 185, 186, 187, 188, 189, 190, 191, 192, 193, 194, 195, 196, 197, 198, 638, 639, 640, 641, 642, 643, 644, 645, 646, 647, 648, 649, 650, 651, 652, 653, 654, 655, 656, 657] (by decide +kernel) (by decide +kernel)
set_option maxRecDepth 20000 in
theorem gL_law_X5_setMember : GoodIn wsL_law (wsV RL 91 RX5 yX5_setMember wsX5_setMember) := goodIn_app (goodIn_of _ (by decide +kernel)) ggL_law_X5_setMember
set_option maxRecDepth 20000 in
theorem ggL_law_X5_thrown : GoodIn wsL_law wsX5_thrown := goodIn_r _ [202, 195, 638, 639, 640, 641, 642, 643, 644, 645, 646, 647, 648, 649, 650, 651, 652, 653, 654, 655, 656, 657] (by decide +kernel) (by decide +kernel)
set_option maxRecDepth 20000 in
theorem gL_law_X5_thrown : GoodIn wsL_law (wsV RL 92 RX5 yX5_thrown wsX5_thrown) := goodIn_app (goodIn_of _ (by decide +kernel)) ggL_law_X5_thrown
set_option maxRecDepth 20000 in
theorem ggL_law_L_nest : GoodIn wsL_law wsL_nest := goodIn_ca (goodIn_ca (goodIn_r _ [205, 151, 206, 207, 208, 209, 2, 210, 211, 212, 16, 156, 157, 158, 159, 160, 213, 175, 176, 15, 177, 33, 168, 169, 214, 215, 216, 217, 218, 170, 171, 172, 173, 32, 34, 174, 635, 636, 637, 658, 659, 660] (by decide +kernel) (by decide +kernel)) (goodIn_sub (fun _ h => List.mem_append_left _ (List.mem_append_right _ h)) (by decide +kernel))) (goodIn_sub (fun _ h => List.mem_append_left _ (List.mem_append_left _ (List.mem_append_right _ h))) (by decide +kernel))
set_option maxRecDepth 20000 in
theorem gL_law_L_nest : GoodIn wsL_law (va_wsS RL 96 yL_nest wsL_nest) := goodIn_app (goodIn_of _ (by decide +kernel)) ggL_law_L_nest
set_option maxRecDepth 20000 in
theorem ggL_law_X5_nest : GoodIn wsL_law wsX5_nest := goodIn_r _ [222, 131, 182, 183, 5, 184, 185, 186, 187, 223, 224, 225, 226, 196, 197, 198, 191, 192, 193, 194, 195, 638, 639, 640, 641, 642, 643, 644, 645, 646, 647, 648, 649, 650, 651, 652, 653, 654, 655, 656, 657] (by decide +kernel) (by decide +kernel)
set_option maxRecDepth 20000 in
theorem gL_law_X5_nest : GoodIn wsL_law (wsV RL 99 RX5 yX5_nest wsX5_nest) := goodIn_app (goodIn_of _ (by decide +kernel)) ggL_law_X5_nest
set_option maxRecDepth 20000 in
theorem ggL_law_L_members : GoodIn wsL_law wsL_members := goodIn_ca (goodIn_r _ [229, 151, 230, 231, 232, 2, 233, 16, 156, 157, 158, 159, 160, 234, 235, 236, 15, 237, 34, 635, 636, 637, 658, 659, 660] (by decide +kernel) (by decide +kernel)) (goodIn_sub (fun _ h => List.mem_append_left _ (List.mem_append_left _ (List.mem_append_right _ h))) (by decide +kernel))
set_option maxRecDepth 20000 in
theorem gL_law_L_members : GoodIn wsL_law (va_wsS RL 100 yL_members wsL_members) := goodIn_app (goodIn_of _ (by decide +kernel)) ggL_law_L_members
