set_option maxRecDepth 20000 in
theorem ggL_does_X4_folders : GoodIn wsL_does wsX4_folders := goodIn_r _ [5, 6, 7, 8, 9, 10, 11, 12, 336, 337, 338, 339, 340, 341] (by decide +kernel) (by decide +kernel)
set_option maxRecDepth 20000 in
theorem gL_does_X4_folders : GoodIn wsL_does (wsV RL 39 RX4 yX4_folders wsX4_folders) := goodIn_app (goodIn_of _ (by decide +kernel)) ggL_does_X4_folders
set_option maxRecDepth 20000 in
theorem ggL_does_X4_addFolder : GoodIn wsL_does wsX4_addFolder := goodIn_ca (goodIn_ca (goodIn_r _ [16, 17, 18, 6, 19, 20, 21, 22, 23, 24, 4, 25, 26, 27, 28, 7, 8, 9, 10, 11, 12, 29, 30, 31, 32, 33, 34, 35, 36, 37, 38, 39, 40, 41, 42, 43, 44, 45, 46, 47, 48, 49, 50, 51, 52, 53, 54, 55, 56, 57, 58, 59, 60, 61, 62, 63, 64, 65, 66, 67, 68, 69, 70, 71, 72, 73, 74, 75, 76, 77, 78, 79, 80, 81, 82, 83, 84, 85, 86, 87, 88, 89, 90, 91, 92, 93, 94, 95, 96, 97, 98, 99, 100, 101, 102, 103, 104, 105, 106, 107, 108, 109, 110, 111, 112, 113, 114, 115, 116, 117, 118, 119, 120, 121, 122, 123, 124, 125, 126, 127, 128, 129, 130, 336, 337, 338, 342, 343, 344, 345, 346, 347, 348, 339, 340, 341] (by decide +kernel) (by decide +kernel)) (goodIn_sub (fun _ h => List.mem_cons_of_mem _ (List.mem_append_left _ (List.mem_append_left _ (List.mem_append_right _ h)))) (by decide +kernel))) (goodIn_sub (fun _ h => List.mem_cons_of_mem _ (List.mem_append_left _ (List.mem_append_right _ h))) (by decide +kernel))
set_option maxRecDepth 20000 in
theorem gL_does_X4_addFolder : GoodIn wsL_does (wsV RL 59 RX4 yX4_addFolder wsX4_addFolder) := goodIn_app (goodIn_of _ (by decide +kernel)) ggL_does_X4_addFolder
set_option maxRecDepth 20000 in
theorem ggL_does_X4_setMember : GoodIn wsL_does wsX4_setMember := goodIn_ca (goodIn_r _ [134, 135, 136, 137, 4, 138, 26, 27, 46, 47, 48, 139, 140, 141, 142, 143, 144, 145, 146, 147, 148, 149, 150, 151, 152, 153, 154, 155, 156, 336, 337, 338, 349, 350, 351] (by decide +kernel) (by decide +kernel)) (goodIn_sub (fun _ h => List.mem_cons_of_mem _ (List.mem_append_left _ (List.mem_append_right _ h))) (by decide +kernel))
set_option maxRecDepth 20000 in
theorem gL_does_X4_setMember : GoodIn wsL_does (wsV RL 62 RX4 yX4_setMember wsX4_setMember) := goodIn_app (goodIn_of _ (by decide +kernel)) ggL_does_X4_setMember
set_option maxRecDepth 20000 in
theorem ggL_does_X4_nest : GoodIn wsL_does wsX4_nest := goodIn_ca (goodIn_ca (goodIn_r _ [160, 17, 18, 135, 136, 137, 4, 138, 26, 27, 161, 153, 154, 142, 155, 156, 145, 146, 162, 163, 164, 165, 166, 147, 148, 149, 150, 144, 151, 152, 336, 337, 338, 349, 350, 351] (by decide +kernel) (by decide +kernel)) (goodIn_sub (fun _ h => List.mem_cons_of_mem _ (List.mem_append_left _ (List.mem_append_left _ (List.mem_append_right _ h)))) (by decide +kernel))) (goodIn_sub (fun _ h => List.mem_cons_of_mem _ (List.mem_append_left _ (List.mem_append_right _ h))) (by decide +kernel))
set_option maxRecDepth 20000 in
theorem gL_does_X4_nest : GoodIn wsL_does (wsV RL 66 RX4 yX4_nest wsX4_nest) := goodIn_app (goodIn_of _ (by decide +kernel)) ggL_does_X4_nest
set_option maxRecDepth 20000 in
theorem ggL_does_X4_members : GoodIn wsL_does wsX4_members := goodIn_ca (goodIn_r _ [170, 135, 136, 137, 4, 138, 26, 27, 171, 172, 173, 142, 174, 151, 336, 337, 338, 349, 350, 351] (by decide +kernel) (by decide +kernel)) (goodIn_sub (fun _ h => List.mem_cons_of_mem _ (List.mem_append_left _ (List.mem_append_right _ h))) (by decide +kernel))
set_option maxRecDepth 20000 in
theorem gL_does_X4_members : GoodIn wsL_does (wsV RL 70 RX4 yX4_members wsX4_members) := goodIn_app (goodIn_of _ (by decide +kernel)) ggL_does_X4_members
