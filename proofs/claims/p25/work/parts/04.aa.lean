set_option maxRecDepth 20000 in
theorem ggX1_init_Jx4a65c_init_da8c8 : GoodIn wsX1_init wsJx4a65c_init_da8c8 := goodIn_r _ [17, 18, 19, 20, 21, 22, 23, 24, 25, 26, 27, 28, 29, 2, 3, 30, 31, 32] (by decide +kernel) (by decide +kernel)
set_option maxRecDepth 20000 in
theorem gX1_init_Jx4a65c_init_da8c8 : GoodIn wsX1_init (wsJx4a65c_init_da8c8) := ggX1_init_Jx4a65c_init_da8c8
set_option maxRecDepth 20000 in
theorem ggX1_levelsInherited_X1_inheritsFrom : GoodIn wsX1_levelsInherited wsX1_inheritsFrom := goodIn_r _ [5, 6, 7, 8, 9, 10, 11, 12, 13, 14] (by decide +kernel) (by decide +kernel)
set_option maxRecDepth 20000 in
theorem gX1_levelsInherited_X1_inheritsFrom : GoodIn wsX1_levelsInherited (wsV RX1 40 RX1 yX1_inheritsFrom wsX1_inheritsFrom) := goodIn_app (goodIn_of _ (by decide +kernel)) ggX1_levelsInherited_X1_inheritsFrom
set_option maxRecDepth 20000 in
theorem ggX1_keep_X1_keeps : GoodIn wsX1_keep wsX1_keeps := goodIn_r _ [11, 6, 1, 12, 13, 14, 15, 16, 17, 18] (by decide +kernel) (by decide +kernel)
set_option maxRecDepth 20000 in
theorem gX1_keep_X1_keeps : GoodIn wsX1_keep (wsV RX1 44 RX1 yX1_keeps wsX1_keeps) := goodIn_app (goodIn_of _ (by decide +kernel)) ggX1_keep_X1_keeps
set_option maxRecDepth 20000 in
theorem ggX2_put_X4_contains : GoodIn wsX2_put wsX4_contains := goodIn_r _ [4] (by decide +kernel) (by decide +kernel)
set_option maxRecDepth 20000 in
theorem gX2_put_X4_contains_n21 : GoodIn wsX2_put (wsX4_contains) := ggX2_put_X4_contains
set_option maxRecDepth 20000 in
theorem ggX2_put_X2_findEveryone : GoodIn wsX2_put wsX2_findEveryone := goodIn_r _ [9, 1, 10, 11, 12, 13, 8, 14, 15, 2, 3, 4, 16, 17, 18] (by decide +kernel) (by decide +kernel)
set_option maxRecDepth 20000 in
theorem gX2_put_X2_findEveryone : GoodIn wsX2_put (wsV RX2 25 RX2 yX2_findEveryone wsX2_findEveryone) := goodIn_app (goodIn_of _ (by decide +kernel)) ggX2_put_X2_findEveryone
set_option maxRecDepth 20000 in
theorem ggX2_toggleInner_X2_findEveryone : GoodIn wsX2_toggleInner wsX2_findEveryone := goodIn_r _ [6, 7, 8, 9, 10, 11, 5, 12, 1, 13, 14, 15, 16, 17, 18] (by decide +kernel) (by decide +kernel)
set_option maxRecDepth 20000 in
theorem gX2_toggleInner_X2_findEveryone : GoodIn wsX2_toggleInner (wsV RX2 25 RX2 yX2_findEveryone wsX2_findEveryone) := goodIn_app (goodIn_of _ (by decide +kernel)) ggX2_toggleInner_X2_findEveryone
set_option maxRecDepth 20000 in
theorem ggX2_toggleInner_X4_contains : GoodIn wsX2_toggleInner wsX4_contains := goodIn_r _ [15] (by decide +kernel) (by decide +kernel)
set_option maxRecDepth 20000 in
theorem gX2_toggleInner_X4_contains_n21 : GoodIn wsX2_toggleInner (wsX4_contains) := ggX2_toggleInner_X4_contains
set_option maxRecDepth 20000 in
theorem ggX2_reachedFrom_X4_contains : GoodIn wsX2_reachedFrom wsX4_contains := goodIn_r _ [4] (by decide +kernel) (by decide +kernel)
set_option maxRecDepth 20000 in
theorem gX2_reachedFrom_X4_contains_n21 : GoodIn wsX2_reachedFrom (wsX4_contains) := ggX2_reachedFrom_X4_contains
set_option maxRecDepth 20000 in
theorem ggX2_findEveryone_X2_reachedFrom : GoodIn wsX2_findEveryone wsX2_reachedFrom := goodIn_r _ [7, 8, 9, 10, 11, 12, 13, 14] (by decide +kernel) (by decide +kernel)
set_option maxRecDepth 20000 in
theorem gX2_findEveryone_X2_reachedFrom : GoodIn wsX2_findEveryone (wsV RX2 28 RX2 yX2_reachedFrom wsX2_reachedFrom) := goodIn_app (goodIn_of _ (by decide +kernel)) ggX2_findEveryone_X2_reachedFrom
set_option maxRecDepth 20000 in
theorem ggX2_findEveryone_X4_contains : GoodIn wsX2_findEveryone wsX4_contains := goodIn_r _ [11] (by decide +kernel) (by decide +kernel)
set_option maxRecDepth 20000 in
theorem gX2_findEveryone_X4_contains_n21 : GoodIn wsX2_findEveryone (wsX4_contains) := ggX2_findEveryone_X4_contains
set_option maxRecDepth 20000 in
theorem ggX3_make_X3_findBits : GoodIn wsX3_make wsX3_findBits := goodIn_r _ [8, 2, 9, 10, 3, 11, 12, 13, 14, 15, 7, 16, 17, 18, 19, 20, 21, 22, 23, 24, 25, 26, 27, 28, 29, 30, 35, 36, 37, 38, 39, 40, 41] (by decide +kernel) (by decide +kernel)
set_option maxRecDepth 20000 in
theorem gX3_make_X3_findBits : GoodIn wsX3_make (wsV RX3 34 RX3 yX3_findBits wsX3_findBits) := goodIn_app (goodIn_of _ (by decide +kernel)) ggX3_make_X3_findBits
set_option maxRecDepth 20000 in
theorem ggX3_make_X3_greatestLoser : GoodIn wsX3_make wsX3_greatestLoser := goodIn_r _ [34, 20, 21, 22, 7, 23, 12, 11, 24, 25, 26, 27, 28, 29, 30, 35, 36, 37, 38, 39, 40, 41] (by decide +kernel) (by decide +kernel)
set_option maxRecDepth 20000 in
theorem gX3_make_X3_greatestLoser : GoodIn wsX3_make (wsV RX3 38 RX3 yX3_greatestLoser wsX3_greatestLoser) := goodIn_app (goodIn_of _ (by decide +kernel)) ggX3_make_X3_greatestLoser
set_option maxRecDepth 20000 in
theorem ggX3_findBits_X3_sharedBy : GoodIn wsX3_findBits wsX3_sharedBy := goodIn_r _ [11, 6, 12, 13, 14, 26, 27, 28, 29, 30, 31, 32] (by decide +kernel) (by decide +kernel)
set_option maxRecDepth 20000 in
theorem gX3_findBits_X3_sharedBy : GoodIn wsX3_findBits (wsV RX3 42 RX3 yX3_sharedBy wsX3_sharedBy) := goodIn_app (goodIn_of _ (by decide +kernel)) ggX3_findBits_X3_sharedBy
set_option maxRecDepth 20000 in
theorem ggX3_findBits_X4_contains : GoodIn wsX3_findBits wsX4_contains := goodIn_r _ [14] (by decide +kernel) (by decide +kernel)
set_option maxRecDepth 20000 in
theorem gX3_findBits_X4_contains_n46 : GoodIn wsX3_findBits (wsX4_contains) := ggX3_findBits_X4_contains
set_option maxRecDepth 20000 in
theorem ggX3_findBits_X3_lossOf : GoodIn wsX3_findBits wsX3_lossOf := goodIn_r _ [18, 6, 5, 19, 20, 21, 22, 23, 24, 25, 26, 27, 28, 29, 30, 31, 32] (by decide +kernel) (by decide +kernel)
set_option maxRecDepth 20000 in
theorem gX3_findBits_X3_lossOf : GoodIn wsX3_findBits (wsV RX3 50 RX3 yX3_lossOf wsX3_lossOf) := goodIn_app (goodIn_of _ (by decide +kernel)) ggX3_findBits_X3_lossOf
set_option maxRecDepth 20000 in
theorem ggX3_sharedBy_X4_contains : GoodIn wsX3_sharedBy wsX4_contains := goodIn_r _ [4] (by decide +kernel) (by decide +kernel)
set_option maxRecDepth 20000 in
theorem gX3_sharedBy_X4_contains_n46 : GoodIn wsX3_sharedBy (wsX4_contains) := ggX3_sharedBy_X4_contains
set_option maxRecDepth 20000 in
theorem ggX3_lossOf_J6_bitCount_0f7a4 : GoodIn wsX3_lossOf wsJ6_bitCount_0f7a4 := goodIn_r _ [6, 7, 8, 9] (by decide +kernel) (by decide +kernel)
set_option maxRecDepth 20000 in
theorem gX3_lossOf_J6_bitCount_0f7a4 : GoodIn wsX3_lossOf (va_wsS RX3 53 yJ6_bitCount_0f7a4 wsJ6_bitCount_0f7a4) := goodIn_app (goodIn_of _ (by decide +kernel)) ggX3_lossOf_J6_bitCount_0f7a4
set_option maxRecDepth 20000 in
theorem ggX3_greatestLoser_X3_lossOf : GoodIn wsX3_greatestLoser wsX3_lossOf := goodIn_r _ [5, 6, 7, 8, 9, 10, 11, 12, 13, 14, 15, 16, 17, 18, 19, 20, 21] (by decide +kernel) (by decide +kernel)
set_option maxRecDepth 20000 in
theorem gX3_greatestLoser_X3_lossOf : GoodIn wsX3_greatestLoser (wsV RX3 50 RX3 yX3_lossOf wsX3_lossOf) := goodIn_app (goodIn_of _ (by decide +kernel)) ggX3_greatestLoser_X3_lossOf
set_option maxRecDepth 20000 in
theorem ggX4_init_X2_init : GoodIn wsX4_init wsX2_init := goodIn_r _ [20, 21, 2, 3, 22, 23, 24, 25, 117, 118, 119] (by decide +kernel) (by decide +kernel)
set_option maxRecDepth 20000 in
theorem gX4_init_X2_init_n11 : GoodIn wsX4_init (wsX2_init) := ggX4_init_X2_init
set_option maxRecDepth 20000 in
theorem ggX4_init_Jx4a65c_init_da8c8 : GoodIn wsX4_init wsJx4a65c_init_da8c8 := goodIn_r _ [28, 29, 30, 31, 32, 33, 34, 35, 36, 37, 38, 39, 40, 2, 3, 123, 124, 125] (by decide +kernel) (by decide +kernel)
set_option maxRecDepth 20000 in
theorem gX4_init_Jx4a65c_init_da8c8 : GoodIn wsX4_init (wsJx4a65c_init_da8c8) := ggX4_init_Jx4a65c_init_da8c8
set_option maxRecDepth 20000 in
theorem ggX4_init_X3_init : GoodIn wsX4_init wsX3_init := goodIn_r _ [42, 43, 2, 3, 22, 44, 45, 46, 47, 48, 49, 50, 126, 127, 128, 129, 130, 131, 132] (by decide +kernel) (by decide +kernel)
set_option maxRecDepth 20000 in
theorem gX4_init_X3_init_n25 : GoodIn wsX4_init (wsX3_init) := ggX4_init_X3_init
set_option maxRecDepth 20000 in
theorem ggX4_init_X1_init : GoodIn wsX4_init wsX1_init := goodIn_r _ [53, 54, 2, 3, 55, 9, 10, 56, 22, 57, 58, 59, 60, 61, 62, 63, 27, 28, 29, 30, 31, 32, 33, 34, 35, 36, 37, 38, 39, 40, 123, 124, 125, 133, 134, 135, 136, 137, 138, 139] (by decide +kernel) (by decide +kernel)
set_option maxRecDepth 20000 in
theorem gX4_init_X1_init : GoodIn wsX4_init (wsX1_init) := ggX4_init_X1_init
set_option maxRecDepth 20000 in
theorem ggX4_init_Jx4a65c_add_9ea2d : GoodIn wsX4_init wsJx4a65c_add_9ea2d := goodIn_r _ [67, 68, 69, 30, 70, 71, 72, 73, 10, 74, 75, 76, 77, 78, 79, 80, 81, 82, 29, 83, 84, 85, 86, 87, 88, 89, 90, 91, 92, 93, 94, 95, 96, 97, 98, 99, 100, 101, 102, 103, 104, 105, 106, 107, 108, 109, 110, 111, 112, 113, 114, 115, 116, 123, 124, 125] (by decide +kernel) (by decide +kernel)
set_option maxRecDepth 20000 in
theorem gX4_init_Jx4a65c_add_9ea2d : GoodIn wsX4_init (wsV RX4 35 RJx4a65c yJx4a65c_add_9ea2d wsJx4a65c_add_9ea2d) := goodIn_app (goodIn_of _ (by decide +kernel)) ggX4_init_Jx4a65c_add_9ea2d
set_option maxRecDepth 20000 in
theorem ggX4_setMember_X4_refuseNoGroup : GoodIn wsX4_setMember wsX4_refuseNoGroup := goodIn_ca (goodIn_r _ [5, 6, 7] (by decide +kernel) (by decide +kernel)) (goodIn_sub (fun _ h => List.mem_cons_of_mem _ (List.mem_append_right _ h)) (by decide +kernel))
set_option maxRecDepth 20000 in
theorem gX4_setMember_X4_refuseNoGroup : GoodIn wsX4_setMember (va_wsS RX4 39 yX4_refuseNoGroup wsX4_refuseNoGroup) := goodIn_app (goodIn_of _ (by decide +kernel)) ggX4_setMember_X4_refuseNoGroup
set_option maxRecDepth 20000 in
theorem ggX4_setMember_X4_refuseNoPerson : GoodIn wsX4_setMember wsX4_refuseNoPerson := goodIn_ca (goodIn_r _ [10, 6, 7] (by decide +kernel) (by decide +kernel)) (goodIn_sub (fun _ h => List.mem_cons_of_mem _ (List.mem_append_right _ h)) (by decide +kernel))
set_option maxRecDepth 20000 in
theorem gX4_setMember_X4_refuseNoPerson : GoodIn wsX4_setMember (va_wsS RX4 43 yX4_refuseNoPerson wsX4_refuseNoPerson) := goodIn_app (goodIn_of _ (by decide +kernel)) ggX4_setMember_X4_refuseNoPerson
set_option maxRecDepth 20000 in
theorem ggX4_setMember_X2_put : GoodIn wsX4_setMember wsX2_put := goodIn_r _ [15, 16, 17, 4, 18, 19, 20, 21, 14, 22, 23, 24, 25, 26, 27, 28, 32, 33, 34] (by decide +kernel) (by decide +kernel)
set_option maxRecDepth 20000 in
theorem gX4_setMember_X2_put : GoodIn wsX4_setMember (wsV RX4 46 RX2 yX2_put wsX2_put) := goodIn_app (goodIn_of _ (by decide +kernel)) ggX4_setMember_X2_put
set_option maxRecDepth 20000 in
theorem ggX4_nest_X4_refuseNoGroup : GoodIn wsX4_nest wsX4_refuseNoGroup := goodIn_ca (goodIn_r _ [7, 8, 9] (by decide +kernel) (by decide +kernel)) (goodIn_sub (fun _ h => List.mem_cons_of_mem _ (List.mem_append_right _ h)) (by decide +kernel))
set_option maxRecDepth 20000 in
theorem gX4_nest_X4_refuseNoGroup : GoodIn wsX4_nest (va_wsS RX4 39 yX4_refuseNoGroup wsX4_refuseNoGroup) := goodIn_app (goodIn_of _ (by decide +kernel)) ggX4_nest_X4_refuseNoGroup
set_option maxRecDepth 20000 in
theorem ggX4_nest_X2_reachedFrom : GoodIn wsX4_nest wsX2_reachedFrom := goodIn_r _ [14, 15, 16, 6, 17, 33, 34, 35] (by decide +kernel) (by decide +kernel)
set_option maxRecDepth 20000 in
theorem gX4_nest_X2_reachedFrom : GoodIn wsX4_nest (wsV RX4 50 RX2 yX2_reachedFrom wsX2_reachedFrom) := goodIn_app (goodIn_of _ (by decide +kernel)) ggX4_nest_X2_reachedFrom
set_option maxRecDepth 20000 in
theorem ggX4_nest_X4_contains : GoodIn wsX4_nest wsX4_contains := goodIn_r _ [17] (by decide +kernel) (by decide +kernel)
set_option maxRecDepth 20000 in
theorem gX4_nest_X4_contains : GoodIn wsX4_nest (va_wsS RX4 54 yX4_contains wsX4_contains) := goodIn_app (goodIn_of _ (by decide +kernel)) ggX4_nest_X4_contains
set_option maxRecDepth 20000 in
theorem ggX4_nest_X2_toggleInner : GoodIn wsX4_nest wsX2_toggleInner := goodIn_r _ [22, 15, 23, 24, 25, 13, 26, 27, 28, 29, 11, 12, 14, 16, 6, 17, 33, 34, 35] (by decide +kernel) (by decide +kernel)
set_option maxRecDepth 20000 in
theorem gX4_nest_X2_toggleInner : GoodIn wsX4_nest (wsV RX4 65 RX2 yX2_toggleInner wsX2_toggleInner) := goodIn_app (goodIn_of _ (by decide +kernel)) ggX4_nest_X2_toggleInner
set_option maxRecDepth 20000 in
theorem ggX4_members_X4_refuseNoGroup : GoodIn wsX4_members wsX4_refuseNoGroup := goodIn_ca (goodIn_r _ [5, 6, 7] (by decide +kernel) (by decide +kernel)) (goodIn_sub (fun _ h => List.mem_cons_of_mem _ (List.mem_append_right _ h)) (by decide +kernel))
set_option maxRecDepth 20000 in
theorem gX4_members_X4_refuseNoGroup : GoodIn wsX4_members (va_wsS RX4 39 yX4_refuseNoGroup wsX4_refuseNoGroup) := goodIn_app (goodIn_of _ (by decide +kernel)) ggX4_members_X4_refuseNoGroup
set_option maxRecDepth 20000 in
theorem ggX4_members_X2_everyoneIn : GoodIn wsX4_members wsX2_everyoneIn := goodIn_r _ [12, 13, 17, 18, 19] (by decide +kernel) (by decide +kernel)
set_option maxRecDepth 20000 in
theorem gX4_members_X2_everyoneIn : GoodIn wsX4_members (wsV RX4 68 RX2 yX2_everyoneIn wsX2_everyoneIn) := goodIn_app (goodIn_of _ (by decide +kernel)) ggX4_members_X2_everyoneIn
set_option maxRecDepth 20000 in
theorem ggX4_addFolder_X4_folderAt : GoodIn wsX4_addFolder wsX4_folderAt := goodIn_ca (goodIn_r _ [11, 12, 13, 3, 14, 15, 16, 17, 18, 19, 20, 21, 22, 23, 24, 25, 26, 27, 28, 29, 30, 31, 32, 33, 34, 35, 36, 37, 123, 124, 125, 133, 134, 135] (by decide +kernel) (by decide +kernel)) (goodIn_sub (fun _ h => List.mem_cons_of_mem _ (List.mem_append_right _ h)) (by decide +kernel))
set_option maxRecDepth 20000 in
theorem gX4_addFolder_X4_folderAt : GoodIn wsX4_addFolder (wsV RX4 71 RX4 yX4_folderAt wsX4_folderAt) := goodIn_app (goodIn_of _ (by decide +kernel)) ggX4_addFolder_X4_folderAt
set_option maxRecDepth 20000 in
theorem ggX4_addFolder_X4_refuseNoPerson : GoodIn wsX4_addFolder wsX4_refuseNoPerson := goodIn_ca (goodIn_r _ [40, 12, 13] (by decide +kernel) (by decide +kernel)) (goodIn_sub (fun _ h => List.mem_cons_of_mem _ (List.mem_append_right _ h)) (by decide +kernel))
set_option maxRecDepth 20000 in
theorem gX4_addFolder_X4_refuseNoPerson : GoodIn wsX4_addFolder (va_wsS RX4 43 yX4_refuseNoPerson wsX4_refuseNoPerson) := goodIn_app (goodIn_of _ (by decide +kernel)) ggX4_addFolder_X4_refuseNoPerson
set_option maxRecDepth 20000 in
theorem ggX4_addFolder_Jx4a65c_size_8abf5 : GoodIn wsX4_addFolder wsJx4a65c_size_8abf5 := goodIn_r _ [19, 20, 133, 134, 135] (by decide +kernel) (by decide +kernel)
set_option maxRecDepth 20000 in
theorem gX4_addFolder_Jx4a65c_size_8abf5 : GoodIn wsX4_addFolder (wsV RX4 75 RJx4a65c yJx4a65c_size_8abf5 wsJx4a65c_size_8abf5) := goodIn_app (goodIn_of _ (by decide +kernel)) ggX4_addFolder_Jx4a65c_size_8abf5
set_option maxRecDepth 20000 in
theorem ggX4_addFolder_X1_init : GoodIn wsX4_addFolder wsX1_init := goodIn_r _ [43, 44, 45, 46, 47, 48, 18, 49, 50, 51, 52, 53, 54, 55, 56, 57, 58, 59, 60, 37, 61, 62, 63, 64, 65, 66, 67, 68, 69, 70, 133, 134, 135, 126, 127, 128, 129, 130, 131, 132] (by decide +kernel) (by decide +kernel)
set_option maxRecDepth 20000 in
theorem gX4_addFolder_X1_init : GoodIn wsX4_addFolder (wsX1_init) := ggX4_addFolder_X1_init
set_option maxRecDepth 20000 in
theorem ggX4_addFolder_Jx4a65c_add_9ea2d : GoodIn wsX4_addFolder wsJx4a65c_add_9ea2d := goodIn_r _ [74, 75, 76, 37, 20, 77, 78, 79, 18, 80, 81, 82, 83, 84, 85, 86, 87, 88, 60, 89, 90, 91, 92, 93, 94, 95, 96, 97, 98, 99, 100, 101, 102, 103, 104, 105, 106, 107, 108, 109, 110, 111, 112, 113, 114, 115, 116, 117, 118, 119, 120, 121, 122, 133, 134, 135] (by decide +kernel) (by decide +kernel)
set_option maxRecDepth 20000 in
theorem gX4_addFolder_Jx4a65c_add_9ea2d : GoodIn wsX4_addFolder (wsV RX4 35 RJx4a65c yJx4a65c_add_9ea2d wsJx4a65c_add_9ea2d) := goodIn_app (goodIn_of _ (by decide +kernel)) ggX4_addFolder_Jx4a65c_add_9ea2d
set_option maxRecDepth 20000 in
theorem ggX4_setOwner_X4_folderAt : GoodIn wsX4_setOwner wsX4_folderAt := goodIn_ca (goodIn_r _ [6, 7, 8, 9, 10, 11, 12, 13, 14, 15, 16, 17, 18, 19, 20, 21, 22, 23, 24, 25, 26, 27, 28, 29, 30, 31, 32, 33, 44, 45, 46, 47, 48, 49] (by decide +kernel) (by decide +kernel)) (goodIn_sub (fun _ h => List.mem_cons_of_mem _ (List.mem_append_right _ h)) (by decide +kernel))
set_option maxRecDepth 20000 in
theorem gX4_setOwner_X4_folderAt : GoodIn wsX4_setOwner (wsV RX4 71 RX4 yX4_folderAt wsX4_folderAt) := goodIn_app (goodIn_of _ (by decide +kernel)) ggX4_setOwner_X4_folderAt
set_option maxRecDepth 20000 in
theorem ggX4_setOwner_X4_refuseNoPerson : GoodIn wsX4_setOwner wsX4_refuseNoPerson := goodIn_ca (goodIn_r _ [36, 7, 8] (by decide +kernel) (by decide +kernel)) (goodIn_sub (fun _ h => List.mem_cons_of_mem _ (List.mem_append_right _ h)) (by decide +kernel))
set_option maxRecDepth 20000 in
theorem gX4_setOwner_X4_refuseNoPerson : GoodIn wsX4_setOwner (va_wsS RX4 43 yX4_refuseNoPerson wsX4_refuseNoPerson) := goodIn_app (goodIn_of _ (by decide +kernel)) ggX4_setOwner_X4_refuseNoPerson
set_option maxRecDepth 20000 in
theorem ggX4_setInherits_X4_folderAt : GoodIn wsX4_setInherits wsX4_folderAt := goodIn_ca (goodIn_r _ [6, 7, 8, 9, 10, 11, 12, 13, 14, 15, 16, 17, 18, 19, 20, 21, 22, 23, 24, 25, 26, 27, 28, 29, 30, 31, 32, 33, 41, 42, 43, 44, 45, 46] (by decide +kernel) (by decide +kernel)) (goodIn_sub (fun _ h => List.mem_cons_of_mem _ (List.mem_append_right _ h)) (by decide +kernel))
set_option maxRecDepth 20000 in
theorem gX4_setInherits_X4_folderAt : GoodIn wsX4_setInherits (wsV RX4 71 RX4 yX4_folderAt wsX4_folderAt) := goodIn_app (goodIn_of _ (by decide +kernel)) ggX4_setInherits_X4_folderAt
set_option maxRecDepth 20000 in
theorem ggX4_allow_X4_folderAt : GoodIn wsX4_allow wsX4_folderAt := goodIn_ca (goodIn_r _ [15, 1, 2, 16, 17, 18, 19, 20, 21, 22, 23, 24, 25, 26, 27, 28, 29, 30, 31, 32, 33, 34, 35, 36, 37, 38, 39, 40, 115, 116, 117, 118, 119, 120] (by decide +kernel) (by decide +kernel)) (goodIn_sub (fun _ h => List.mem_cons_of_mem _ (List.mem_append_left _ (List.mem_append_left _ (List.mem_append_right _ h)))) (by decide +kernel))
set_option maxRecDepth 20000 in
theorem gX4_allow_X4_folderAt : GoodIn wsX4_allow (wsV RX4 71 RX4 yX4_folderAt wsX4_folderAt) := goodIn_app (goodIn_of _ (by decide +kernel)) ggX4_allow_X4_folderAt
set_option maxRecDepth 20000 in
theorem ggX4_allow_Jx4a65c_size_8abf5 : GoodIn wsX4_allow wsJx4a65c_size_8abf5 := goodIn_r _ [22, 23, 118, 119, 120] (by decide +kernel) (by decide +kernel)
set_option maxRecDepth 20000 in
theorem gX4_allow_Jx4a65c_size_8abf5 : GoodIn wsX4_allow (wsV RX4 75 RJx4a65c yJx4a65c_size_8abf5 wsJx4a65c_size_8abf5) := goodIn_app (goodIn_of _ (by decide +kernel)) ggX4_allow_Jx4a65c_size_8abf5
set_option maxRecDepth 20000 in
theorem ggX4_allow_X0_init : GoodIn wsX4_allow wsX0_init := goodIn_r _ [43, 44, 45, 46, 47, 48, 49, 50, 111, 112, 113, 114] (by decide +kernel) (by decide +kernel)
set_option maxRecDepth 20000 in
theorem gX4_allow_X0_init : GoodIn wsX4_allow (wsX0_init) := ggX4_allow_X0_init
set_option maxRecDepth 20000 in
theorem ggX4_allow_Jx4a65c_add_9ea2d : GoodIn wsX4_allow wsJx4a65c_add_9ea2d := goodIn_r _ [54, 55, 56, 40, 23, 57, 58, 59, 21, 60, 61, 62, 63, 64, 65, 66, 67, 68, 69, 70, 71, 72, 73, 74, 75, 76, 77, 78, 79, 80, 81, 82, 83, 84, 85, 86, 87, 88, 89, 90, 91, 92, 93, 94, 95, 96, 97, 98, 99, 100, 101, 102, 103, 118, 119, 120] (by decide +kernel) (by decide +kernel)
set_option maxRecDepth 20000 in
theorem gX4_allow_Jx4a65c_add_9ea2d : GoodIn wsX4_allow (wsV RX4 35 RJx4a65c yJx4a65c_add_9ea2d wsJx4a65c_add_9ea2d) := goodIn_app (goodIn_of _ (by decide +kernel)) ggX4_allow_Jx4a65c_add_9ea2d
set_option maxRecDepth 20000 in
theorem ggX4_drop_X4_folderAt : GoodIn wsX4_drop wsX4_folderAt := goodIn_ca (goodIn_r _ [10, 1, 2, 11, 12, 13, 14, 15, 16, 17, 18, 19, 20, 21, 22, 23, 24, 25, 26, 27, 28, 29, 30, 31, 32, 33, 34, 35, 61, 62, 63, 64, 65, 66] (by decide +kernel) (by decide +kernel)) (goodIn_sub (fun _ h => List.mem_cons_of_mem _ (List.mem_append_right _ h)) (by decide +kernel))
set_option maxRecDepth 20000 in
theorem gX4_drop_X4_folderAt : GoodIn wsX4_drop (wsV RX4 71 RX4 yX4_folderAt wsX4_folderAt) := goodIn_app (goodIn_of _ (by decide +kernel)) ggX4_drop_X4_folderAt
set_option maxRecDepth 20000 in
theorem ggX4_drop_Jx4a65c_size_8abf5 : GoodIn wsX4_drop wsJx4a65c_size_8abf5 := goodIn_r _ [17, 18, 64, 65, 66] (by decide +kernel) (by decide +kernel)
set_option maxRecDepth 20000 in
theorem gX4_drop_Jx4a65c_size_8abf5 : GoodIn wsX4_drop (wsV RX4 75 RJx4a65c yJx4a65c_size_8abf5 wsJx4a65c_size_8abf5) := goodIn_app (goodIn_of _ (by decide +kernel)) ggX4_drop_Jx4a65c_size_8abf5
set_option maxRecDepth 20000 in
theorem ggX4_drop_Jx4a65c_remove_915e3 : GoodIn wsX4_drop wsJx4a65c_remove_915e3 := goodIn_r _ [39, 18, 35, 23, 24, 25, 26, 27, 28, 29, 30, 40, 41, 42, 16, 43, 44, 45, 46, 47, 48, 49, 64, 65, 66] (by decide +kernel) (by decide +kernel)
set_option maxRecDepth 20000 in
theorem gX4_drop_Jx4a65c_remove_915e3 : GoodIn wsX4_drop (wsV RX4 111 RJx4a65c yJx4a65c_remove_915e3 wsJx4a65c_remove_915e3) := goodIn_app (goodIn_of _ (by decide +kernel)) ggX4_drop_Jx4a65c_remove_915e3
set_option maxRecDepth 20000 in
theorem ggX4_folders_Jx4a65c_size_8abf5 : GoodIn wsX4_folders wsJx4a65c_size_8abf5 := goodIn_r _ [6, 7, 11, 12, 13] (by decide +kernel) (by decide +kernel)
set_option maxRecDepth 20000 in
theorem gX4_folders_Jx4a65c_size_8abf5 : GoodIn wsX4_folders (wsV RX4 75 RJx4a65c yJx4a65c_size_8abf5 wsJx4a65c_size_8abf5) := goodIn_app (goodIn_of _ (by decide +kernel)) ggX4_folders_Jx4a65c_size_8abf5
set_option maxRecDepth 20000 in
theorem ggX4_rights_X4_refuseNoPerson : GoodIn wsX4_rights wsX4_refuseNoPerson := goodIn_ca (goodIn_r _ [4, 5, 6] (by decide +kernel) (by decide +kernel)) (goodIn_sub (fun _ h => List.mem_cons_of_mem _ (List.mem_append_right _ h)) (by decide +kernel))
set_option maxRecDepth 20000 in
theorem gX4_rights_X4_refuseNoPerson : GoodIn wsX4_rights (va_wsS RX4 43 yX4_refuseNoPerson wsX4_refuseNoPerson) := goodIn_app (goodIn_of _ (by decide +kernel)) ggX4_rights_X4_refuseNoPerson
set_option maxRecDepth 20000 in
theorem ggX4_rights_X4_folderAt : GoodIn wsX4_rights wsX4_folderAt := goodIn_ca (goodIn_r _ [10, 5, 6, 11, 12, 13, 14, 15, 16, 17, 18, 19, 20, 21, 22, 23, 24, 25, 26, 27, 28, 29, 30, 31, 32, 33, 34, 35, 73, 74, 75, 76, 77, 78] (by decide +kernel) (by decide +kernel)) (goodIn_sub (fun _ h => List.mem_cons_of_mem _ (List.mem_append_right _ h)) (by decide +kernel))
set_option maxRecDepth 20000 in
theorem gX4_rights_X4_folderAt : GoodIn wsX4_rights (wsV RX4 71 RX4 yX4_folderAt wsX4_folderAt) := goodIn_app (goodIn_of _ (by decide +kernel)) ggX4_rights_X4_folderAt
set_option maxRecDepth 20000 in
theorem ggX4_rights_X4_rightsByEntries : GoodIn wsX4_rights wsX4_rightsByEntries := goodIn_r _ [39, 40, 41, 42, 43, 44, 13, 14, 15, 16, 17, 18, 19, 20, 21, 22, 23, 24, 25, 26, 27, 28, 29, 30, 31, 32, 33, 34, 35, 45, 46, 47, 48, 49, 50, 51, 52, 53, 3, 54, 55, 56, 57, 58, 59, 60, 61, 62, 63, 64, 65, 66, 67, 68, 69, 70, 71, 72, 79, 80, 81, 82, 83, 84, 85, 86, 87, 88, 89, 76, 77, 78, 73, 74, 75, 90, 91, 92] (by decide +kernel) (by decide +kernel)
set_option maxRecDepth 20000 in
theorem gX4_rights_X4_rightsByEntries : GoodIn wsX4_rights (wsV RX4 118 RX4 yX4_rightsByEntries wsX4_rightsByEntries) := goodIn_app (goodIn_of _ (by decide +kernel)) ggX4_rights_X4_rightsByEntries
set_option maxRecDepth 20000 in
theorem ggX4_rightsBackwards_X4_refuseNoPerson : GoodIn wsX4_rightsBackwards wsX4_refuseNoPerson := goodIn_ca (goodIn_r _ [4, 5, 6] (by decide +kernel) (by decide +kernel)) (goodIn_sub (fun _ h => List.mem_cons_of_mem _ (List.mem_append_right _ h)) (by decide +kernel))
set_option maxRecDepth 20000 in
theorem gX4_rightsBackwards_X4_refuseNoPerson : GoodIn wsX4_rightsBackwards (va_wsS RX4 43 yX4_refuseNoPerson wsX4_refuseNoPerson) := goodIn_app (goodIn_of _ (by decide +kernel)) ggX4_rightsBackwards_X4_refuseNoPerson
set_option maxRecDepth 20000 in
theorem ggX4_rightsBackwards_X4_folderAt : GoodIn wsX4_rightsBackwards wsX4_folderAt := goodIn_ca (goodIn_r _ [10, 5, 6, 11, 12, 13, 14, 15, 16, 17, 18, 19, 20, 21, 22, 23, 24, 25, 26, 27, 28, 29, 30, 31, 32, 33, 34, 35, 81, 82, 83, 84, 85, 86] (by decide +kernel) (by decide +kernel)) (goodIn_sub (fun _ h => List.mem_cons_of_mem _ (List.mem_append_right _ h)) (by decide +kernel))
set_option maxRecDepth 20000 in
theorem gX4_rightsBackwards_X4_folderAt : GoodIn wsX4_rightsBackwards (wsV RX4 71 RX4 yX4_folderAt wsX4_folderAt) := goodIn_app (goodIn_of _ (by decide +kernel)) ggX4_rightsBackwards_X4_folderAt
set_option maxRecDepth 20000 in
theorem ggX4_rightsBackwards_X4_rightsByOverruling : GoodIn wsX4_rightsBackwards wsX4_rightsByOverruling := goodIn_r _ [39, 40, 41, 42, 43, 44, 45, 46, 47, 48, 49, 50, 51, 52, 53, 54, 55, 56, 57, 58, 59, 13, 14, 15, 16, 17, 18, 19, 20, 21, 22, 23, 24, 25, 26, 27, 28, 29, 30, 31, 32, 33, 34, 35, 60, 61, 62, 63, 64, 65, 66, 67, 68, 3, 69, 70, 71, 72, 73, 74, 75, 76, 77, 78, 79, 80, 87, 88, 89, 90, 91, 92, 93, 94, 95, 96, 97, 84, 85, 86, 81, 82, 83, 98, 99, 100] (by decide +kernel) (by decide +kernel)
set_option maxRecDepth 20000 in
theorem gX4_rightsBackwards_X4_rightsByOverruling : GoodIn wsX4_rightsBackwards (wsV RX4 122 RX4 yX4_rightsByOverruling wsX4_rightsByOverruling) := goodIn_app (goodIn_of _ (by decide +kernel)) ggX4_rightsBackwards_X4_rightsByOverruling
set_option maxRecDepth 20000 in
theorem ggX4_groupOf_X4_folderAt : GoodIn wsX4_groupOf wsX4_folderAt := goodIn_ca (goodIn_r _ [6, 7, 8, 9, 10, 11, 12, 13, 14, 15, 16, 17, 18, 19, 20, 21, 22, 23, 24, 25, 26, 27, 28, 29, 30, 31, 32, 33, 128, 129, 130, 131, 132, 133] (by decide +kernel) (by decide +kernel)) (goodIn_sub (fun _ h => List.mem_cons_of_mem _ (List.mem_append_right _ h)) (by decide +kernel))
set_option maxRecDepth 20000 in
theorem gX4_groupOf_X4_folderAt : GoodIn wsX4_groupOf (wsV RX4 71 RX4 yX4_folderAt wsX4_folderAt) := goodIn_app (goodIn_of _ (by decide +kernel)) ggX4_groupOf_X4_folderAt
set_option maxRecDepth 20000 in
theorem ggX4_groupOf_X4_mappingOf : GoodIn wsX4_groupOf wsX4_mappingOf := goodIn_r _ [37, 38, 39, 40, 41, 42, 5, 43, 44, 45, 46, 47, 48, 49, 50, 51, 52, 53, 11, 12, 13, 14, 15, 16, 17, 18, 19, 20, 21, 22, 23, 24, 25, 26, 27, 28, 29, 30, 31, 32, 33, 54, 55, 56, 57, 58, 59, 60, 61, 62, 63, 64, 65, 66, 67, 68, 69, 70, 71, 72, 73, 74, 75, 76, 77, 78, 79, 80, 81, 82, 83, 84, 85, 86, 87, 88, 89, 90, 91, 92, 93, 94, 95, 96, 97, 98, 99, 100, 101, 102, 103, 104, 105, 106, 107, 108, 109, 110, 111, 112, 113, 114, 115, 116, 117, 118, 119, 120, 128, 129, 130, 121, 122, 123, 124, 125, 126, 127, 134, 135, 136, 137, 138, 139, 140, 141, 142, 143, 144, 131, 132, 133, 145, 146, 147] (by decide +kernel) (by decide +kernel)
set_option maxRecDepth 20000 in
theorem gX4_groupOf_X4_mappingOf : GoodIn wsX4_groupOf (wsV RX4 125 RX4 yX4_mappingOf wsX4_mappingOf) := goodIn_app (goodIn_of _ (by decide +kernel)) ggX4_groupOf_X4_mappingOf
set_option maxRecDepth 20000 in
theorem ggX4_named_X4_folderAt : GoodIn wsX4_named wsX4_folderAt := goodIn_ca (goodIn_r _ [6, 7, 8, 9, 10, 11, 12, 13, 14, 15, 16, 17, 18, 19, 20, 21, 22, 23, 24, 25, 26, 27, 28, 29, 30, 31, 32, 33, 128, 129, 130, 131, 132, 133] (by decide +kernel) (by decide +kernel)) (goodIn_sub (fun _ h => List.mem_cons_of_mem _ (List.mem_append_right _ h)) (by decide +kernel))
set_option maxRecDepth 20000 in
theorem gX4_named_X4_folderAt : GoodIn wsX4_named (wsV RX4 71 RX4 yX4_folderAt wsX4_folderAt) := goodIn_app (goodIn_of _ (by decide +kernel)) ggX4_named_X4_folderAt
set_option maxRecDepth 20000 in
theorem ggX4_named_X4_mappingOf : GoodIn wsX4_named wsX4_mappingOf := goodIn_r _ [37, 38, 39, 40, 41, 42, 5, 43, 44, 45, 46, 47, 48, 49, 50, 51, 52, 53, 11, 12, 13, 14, 15, 16, 17, 18, 19, 20, 21, 22, 23, 24, 25, 26, 27, 28, 29, 30, 31, 32, 33, 54, 55, 56, 57, 58, 59, 60, 61, 62, 63, 64, 65, 66, 67, 68, 69, 70, 71, 72, 73, 74, 75, 76, 77, 78, 79, 80, 81, 82, 83, 84, 85, 86, 87, 88, 89, 90, 91, 92, 93, 94, 95, 96, 97, 98, 99, 100, 101, 102, 103, 104, 105, 106, 107, 108, 109, 110, 111, 112, 113, 114, 115, 116, 117, 118, 119, 120, 128, 129, 130, 121, 122, 123, 124, 125, 126, 127, 134, 135, 136, 137, 138, 139, 140, 141, 142, 143, 144, 131, 132, 133, 145, 146, 147] (by decide +kernel) (by decide +kernel)
set_option maxRecDepth 20000 in
theorem gX4_named_X4_mappingOf : GoodIn wsX4_named (wsV RX4 125 RX4 yX4_mappingOf wsX4_mappingOf) := goodIn_app (goodIn_of _ (by decide +kernel)) ggX4_named_X4_mappingOf
set_option maxRecDepth 20000 in
theorem ggX4_mapped_X4_refuseNoPerson : GoodIn wsX4_mapped wsX4_refuseNoPerson := goodIn_ca (goodIn_r _ [5, 6, 7] (by decide +kernel) (by decide +kernel)) (goodIn_sub (fun _ h => List.mem_cons_of_mem _ (List.mem_append_right _ h)) (by decide +kernel))
set_option maxRecDepth 20000 in
theorem gX4_mapped_X4_refuseNoPerson : GoodIn wsX4_mapped (va_wsS RX4 43 yX4_refuseNoPerson wsX4_refuseNoPerson) := goodIn_app (goodIn_of _ (by decide +kernel)) ggX4_mapped_X4_refuseNoPerson
set_option maxRecDepth 20000 in
theorem ggX4_mapped_X4_folderAt : GoodIn wsX4_mapped wsX4_folderAt := goodIn_ca (goodIn_r _ [11, 6, 7, 12, 13, 14, 15, 16, 17, 18, 19, 20, 21, 22, 23, 24, 25, 26, 27, 28, 29, 30, 31, 32, 33, 34, 35, 36, 131, 132, 133, 134, 135, 136] (by decide +kernel) (by decide +kernel)) (goodIn_sub (fun _ h => List.mem_cons_of_mem _ (List.mem_append_right _ h)) (by decide +kernel))
set_option maxRecDepth 20000 in
theorem gX4_mapped_X4_folderAt : GoodIn wsX4_mapped (wsV RX4 71 RX4 yX4_folderAt wsX4_folderAt) := goodIn_app (goodIn_of _ (by decide +kernel)) ggX4_mapped_X4_folderAt
set_option maxRecDepth 20000 in
theorem ggX4_mapped_X4_mappingOf : GoodIn wsX4_mapped wsX4_mappingOf := goodIn_r _ [40, 41, 42, 43, 44, 45, 4, 46, 47, 48, 49, 50, 51, 52, 53, 54, 55, 56, 14, 15, 16, 17, 18, 19, 20, 21, 22, 23, 24, 25, 26, 27, 28, 29, 30, 31, 32, 33, 34, 35, 36, 57, 58, 59, 60, 61, 62, 63, 64, 65, 66, 67, 68, 69, 70, 71, 72, 73, 74, 75, 76, 77, 78, 79, 80, 81, 82, 83, 84, 85, 86, 87, 88, 89, 90, 91, 92, 93, 94, 95, 96, 97, 98, 99, 100, 101, 102, 103, 104, 105, 106, 107, 108, 109, 110, 111, 112, 113, 114, 115, 116, 117, 118, 119, 120, 121, 122, 123, 131, 132, 133, 124, 125, 126, 127, 128, 129, 130, 137, 138, 139, 140, 141, 142, 143, 144, 145, 146, 147, 134, 135, 136, 148, 149, 150] (by decide +kernel) (by decide +kernel)
set_option maxRecDepth 20000 in
theorem gX4_mapped_X4_mappingOf : GoodIn wsX4_mapped (wsV RX4 125 RX4 yX4_mappingOf wsX4_mappingOf) := goodIn_app (goodIn_of _ (by decide +kernel)) ggX4_mapped_X4_mappingOf
set_option maxRecDepth 20000 in
theorem ggX4_loss_X4_folderAt : GoodIn wsX4_loss wsX4_folderAt := goodIn_ca (goodIn_r _ [6, 7, 8, 9, 10, 11, 12, 13, 14, 15, 16, 17, 18, 19, 20, 21, 22, 23, 24, 25, 26, 27, 28, 29, 30, 31, 32, 33, 127, 128, 129, 130, 131, 132] (by decide +kernel) (by decide +kernel)) (goodIn_sub (fun _ h => List.mem_cons_of_mem _ (List.mem_append_right _ h)) (by decide +kernel))
set_option maxRecDepth 20000 in
theorem gX4_loss_X4_folderAt : GoodIn wsX4_loss (wsV RX4 71 RX4 yX4_folderAt wsX4_folderAt) := goodIn_app (goodIn_of _ (by decide +kernel)) ggX4_loss_X4_folderAt
set_option maxRecDepth 20000 in
theorem ggX4_loss_X4_mappingOf : GoodIn wsX4_loss wsX4_mappingOf := goodIn_r _ [37, 38, 1, 39, 40, 41, 5, 42, 43, 44, 45, 46, 47, 48, 49, 50, 51, 52, 11, 12, 13, 14, 15, 16, 17, 18, 19, 20, 21, 22, 23, 24, 25, 26, 27, 28, 29, 30, 31, 32, 33, 53, 54, 55, 56, 57, 58, 59, 60, 61, 62, 63, 64, 65, 66, 67, 68, 69, 70, 71, 72, 73, 74, 75, 76, 77, 78, 79, 80, 81, 82, 83, 84, 85, 86, 87, 88, 89, 90, 91, 92, 93, 94, 95, 96, 97, 98, 99, 100, 101, 102, 103, 104, 105, 106, 107, 108, 109, 110, 111, 112, 113, 114, 115, 116, 117, 118, 119, 127, 128, 129, 120, 121, 122, 123, 124, 125, 126, 133, 134, 135, 136, 137, 138, 139, 140, 141, 142, 143, 130, 131, 132, 144, 145, 146] (by decide +kernel) (by decide +kernel)
set_option maxRecDepth 20000 in
theorem gX4_loss_X4_mappingOf : GoodIn wsX4_loss (wsV RX4 125 RX4 yX4_mappingOf wsX4_mappingOf) := goodIn_app (goodIn_of _ (by decide +kernel)) ggX4_loss_X4_mappingOf
set_option maxRecDepth 20000 in
theorem ggX4_lossWith_X4_folderAt : GoodIn wsX4_lossWith wsX4_folderAt := goodIn_ca (goodIn_r _ [7, 8, 9, 10, 11, 12, 13, 14, 15, 16, 17, 18, 19, 20, 21, 22, 23, 24, 25, 26, 27, 28, 29, 30, 31, 32, 33, 34, 119, 120, 121, 129, 130, 131] (by decide +kernel) (by decide +kernel)) (goodIn_sub (fun _ h => List.mem_cons_of_mem _ (List.mem_append_right _ h)) (by decide +kernel))
set_option maxRecDepth 20000 in
theorem gX4_lossWith_X4_folderAt : GoodIn wsX4_lossWith (wsV RX4 71 RX4 yX4_folderAt wsX4_folderAt) := goodIn_app (goodIn_of _ (by decide +kernel)) ggX4_lossWith_X4_folderAt
set_option maxRecDepth 20000 in
theorem ggX4_lossWith_X4_refuseNoGroup : GoodIn wsX4_lossWith wsX4_refuseNoGroup := goodIn_ca (goodIn_r _ [37, 8, 9] (by decide +kernel) (by decide +kernel)) (goodIn_sub (fun _ h => List.mem_cons_of_mem _ (List.mem_append_right _ h)) (by decide +kernel))
set_option maxRecDepth 20000 in
theorem gX4_lossWith_X4_refuseNoGroup : GoodIn wsX4_lossWith (va_wsS RX4 39 yX4_refuseNoGroup wsX4_refuseNoGroup) := goodIn_app (goodIn_of _ (by decide +kernel)) ggX4_lossWith_X4_refuseNoGroup
set_option maxRecDepth 20000 in
theorem ggX4_lossWith_X4_findHeld : GoodIn wsX4_lossWith wsX4_findHeld := goodIn_r _ [41, 1, 42, 43, 44, 45, 6, 46, 47, 48, 49, 50, 51, 12, 13, 14, 15, 16, 17, 18, 19, 20, 21, 22, 23, 24, 25, 26, 27, 28, 29, 30, 31, 32, 33, 34, 52, 53, 54, 55, 56, 57, 58, 59, 60, 61, 62, 63, 64, 65, 66, 67, 68, 69, 70, 71, 72, 73, 74, 75, 76, 77, 78, 79, 119, 120, 121, 122, 123, 124, 125, 126, 127, 128, 132, 133, 134, 135, 136, 137, 138, 139, 140, 141, 142, 129, 130, 131, 143, 144, 145] (by decide +kernel) (by decide +kernel)
set_option maxRecDepth 20000 in
theorem gX4_lossWith_X4_findHeld : GoodIn wsX4_lossWith (wsV RX4 148 RX4 yX4_findHeld wsX4_findHeld) := goodIn_app (goodIn_of _ (by decide +kernel)) ggX4_lossWith_X4_findHeld
set_option maxRecDepth 20000 in
theorem ggX4_lossWith_X4_mapWith : GoodIn wsX4_lossWith wsX4_mapWith := goodIn_r _ [83, 63, 1, 47, 64, 65, 66, 67, 68, 69, 84, 85, 86, 87, 88, 89, 90, 91, 92, 93, 94, 95, 96, 97, 98, 99, 100, 101, 102, 103, 71, 6, 72, 104, 105, 106, 107, 108, 109, 110, 111, 112, 113, 114, 115, 116, 117, 118, 119, 120, 121, 132, 133, 134, 135, 136, 137, 138, 143, 144, 145, 122, 123, 124, 125, 126, 127, 128] (by decide +kernel) (by decide +kernel)
set_option maxRecDepth 20000 in
theorem gX4_lossWith_X4_mapWith : GoodIn wsX4_lossWith (wsV RX4 152 RX4 yX4_mapWith wsX4_mapWith) := goodIn_app (goodIn_of _ (by decide +kernel)) ggX4_lossWith_X4_mapWith
set_option maxRecDepth 20000 in
theorem ggX4_pass_Jx4a65c_size_8abf5 : GoodIn wsX4_pass wsJx4a65c_size_8abf5 := goodIn_r _ [8, 9, 139, 140, 141] (by decide +kernel) (by decide +kernel)
set_option maxRecDepth 20000 in
theorem gX4_pass_Jx4a65c_size_8abf5 : GoodIn wsX4_pass (wsV RX4 75 RJx4a65c yJx4a65c_size_8abf5 wsJx4a65c_size_8abf5) := goodIn_app (goodIn_of _ (by decide +kernel)) ggX4_pass_Jx4a65c_size_8abf5
set_option maxRecDepth 20000 in
theorem ggX4_pass_Jx4a65c_get_915e3 : GoodIn wsX4_pass wsJx4a65c_get_915e3 := goodIn_r _ [13, 9, 14, 15, 16, 17, 18, 19, 20, 21, 22, 23, 24, 7, 25, 26, 139, 140, 141] (by decide +kernel) (by decide +kernel)
set_option maxRecDepth 20000 in
theorem gX4_pass_Jx4a65c_get_915e3 : GoodIn wsX4_pass (wsV RX4 155 RJx4a65c yJx4a65c_get_915e3 wsJx4a65c_get_915e3) := goodIn_app (goodIn_of _ (by decide +kernel)) ggX4_pass_Jx4a65c_get_915e3
set_option maxRecDepth 20000 in
theorem ggX4_pass_X4_mappingOf : GoodIn wsX4_pass wsX4_mappingOf := goodIn_r _ [31, 32, 33, 34, 35, 36, 30, 37, 38, 39, 40, 41, 42, 43, 44, 45, 46, 47, 4, 5, 6, 7, 8, 9, 10, 11, 12, 13, 14, 15, 16, 17, 18, 19, 20, 21, 22, 23, 24, 25, 26, 48, 49, 50, 51, 52, 53, 54, 55, 56, 57, 58, 59, 60, 61, 62, 63, 64, 65, 66, 67, 68, 69, 70, 71, 72, 73, 74, 75, 76, 77, 78, 79, 80, 81, 82, 83, 84, 85, 86, 87, 88, 89, 90, 91, 92, 93, 94, 95, 96, 97, 98, 99, 100, 101, 102, 103, 104, 105, 106, 107, 108, 109, 110, 111, 112, 113, 114, 129, 130, 131, 132, 133, 134, 135, 136, 137, 138, 142, 143, 144, 145, 146, 147, 148, 149, 150, 151, 152, 139, 140, 141, 153, 154, 155] (by decide +kernel) (by decide +kernel)
set_option maxRecDepth 20000 in
theorem gX4_pass_X4_mappingOf : GoodIn wsX4_pass (wsV RX4 125 RX4 yX4_mappingOf wsX4_mappingOf) := goodIn_app (goodIn_of _ (by decide +kernel)) ggX4_pass_X4_mappingOf
set_option maxRecDepth 20000 in
theorem ggX4_pass_X1_keep : GoodIn wsX4_pass wsX1_keep := goodIn_r _ [118, 119, 120, 121, 122, 123, 124, 125, 126, 127, 72, 128, 142, 143, 144, 145, 146, 147, 148] (by decide +kernel) (by decide +kernel)
set_option maxRecDepth 20000 in
theorem gX4_pass_X1_keep : GoodIn wsX4_pass (wsV RX4 158 RX1 yX1_keep wsX1_keep) := goodIn_app (goodIn_of _ (by decide +kernel)) ggX4_pass_X1_keep
set_option maxRecDepth 20000 in
theorem ggX4_isFresh_X4_folderAt : GoodIn wsX4_isFresh wsX4_folderAt := goodIn_ca (goodIn_r _ [6, 7, 8, 9, 10, 11, 12, 13, 14, 15, 16, 17, 18, 19, 20, 21, 22, 23, 24, 25, 26, 27, 28, 29, 30, 31, 32, 33, 134, 135, 136, 137, 138, 139] (by decide +kernel) (by decide +kernel)) (goodIn_sub (fun _ h => List.mem_cons_of_mem _ (List.mem_append_right _ h)) (by decide +kernel))
set_option maxRecDepth 20000 in
theorem gX4_isFresh_X4_folderAt : GoodIn wsX4_isFresh (wsV RX4 71 RX4 yX4_folderAt wsX4_folderAt) := goodIn_app (goodIn_of _ (by decide +kernel)) ggX4_isFresh_X4_folderAt
set_option maxRecDepth 20000 in
theorem ggX4_isFresh_X4_mappingOf : GoodIn wsX4_isFresh wsX4_mappingOf := goodIn_r _ [37, 38, 39, 40, 41, 42, 5, 43, 44, 45, 46, 47, 48, 49, 50, 51, 52, 53, 11, 12, 13, 14, 15, 16, 17, 18, 19, 20, 21, 22, 23, 24, 25, 26, 27, 28, 29, 30, 31, 32, 33, 54, 55, 56, 57, 58, 59, 60, 61, 62, 63, 64, 65, 66, 67, 68, 69, 70, 71, 72, 73, 74, 75, 76, 77, 78, 79, 80, 81, 82, 83, 84, 85, 86, 87, 88, 89, 90, 91, 92, 93, 94, 95, 96, 97, 98, 99, 100, 101, 102, 103, 104, 105, 106, 107, 108, 109, 110, 111, 112, 113, 114, 115, 116, 117, 118, 119, 120, 134, 135, 136, 127, 128, 129, 130, 131, 132, 133, 140, 141, 142, 143, 144, 145, 146, 147, 148, 149, 150, 137, 138, 139, 151, 152, 153] (by decide +kernel) (by decide +kernel)
set_option maxRecDepth 20000 in
theorem gX4_isFresh_X4_mappingOf : GoodIn wsX4_isFresh (wsV RX4 125 RX4 yX4_mappingOf wsX4_mappingOf) := goodIn_app (goodIn_of _ (by decide +kernel)) ggX4_isFresh_X4_mappingOf
set_option maxRecDepth 20000 in
theorem ggX4_isFresh_X1_keeps : GoodIn wsX4_isFresh wsX1_keeps := goodIn_r _ [124, 125, 126, 140, 141, 142, 143, 144, 145, 146] (by decide +kernel) (by decide +kernel)
set_option maxRecDepth 20000 in
theorem gX4_isFresh_X1_keeps : GoodIn wsX4_isFresh (wsV RX4 162 RX1 yX1_keeps wsX1_keeps) := goodIn_app (goodIn_of _ (by decide +kernel)) ggX4_isFresh_X1_keeps
set_option maxRecDepth 20000 in
theorem ggX4_turn_X4_folderAt : GoodIn wsX4_turn wsX4_folderAt := goodIn_ca (goodIn_r _ [9, 10, 11, 12, 13, 14, 15, 16, 17, 18, 19, 20, 21, 22, 23, 24, 25, 26, 27, 28, 29, 30, 31, 32, 33, 34, 35, 36, 44, 45, 46, 47, 48, 49] (by decide +kernel) (by decide +kernel)) (goodIn_sub (fun _ h => List.mem_cons_of_mem _ (List.mem_append_right _ h)) (by decide +kernel))
set_option maxRecDepth 20000 in
theorem gX4_turn_X4_folderAt : GoodIn wsX4_turn (wsV RX4 71 RX4 yX4_folderAt wsX4_folderAt) := goodIn_app (goodIn_of _ (by decide +kernel)) ggX4_turn_X4_folderAt
set_option maxRecDepth 20000 in
theorem ggX4_rightsNow_X4_refuseNoPerson : GoodIn wsX4_rightsNow wsX4_refuseNoPerson := goodIn_ca (goodIn_r _ [4, 5, 6] (by decide +kernel) (by decide +kernel)) (goodIn_sub (fun _ h => List.mem_cons_of_mem _ (List.mem_append_right _ h)) (by decide +kernel))
set_option maxRecDepth 20000 in
theorem gX4_rightsNow_X4_refuseNoPerson : GoodIn wsX4_rightsNow (va_wsS RX4 43 yX4_refuseNoPerson wsX4_refuseNoPerson) := goodIn_app (goodIn_of _ (by decide +kernel)) ggX4_rightsNow_X4_refuseNoPerson
set_option maxRecDepth 20000 in
theorem ggX4_rightsNow_X4_folderAt : GoodIn wsX4_rightsNow wsX4_folderAt := goodIn_ca (goodIn_r _ [10, 5, 6, 11, 12, 13, 14, 15, 16, 17, 18, 19, 20, 21, 22, 23, 24, 25, 26, 27, 28, 29, 30, 31, 32, 33, 34, 35, 79, 80, 81, 82, 83, 84] (by decide +kernel) (by decide +kernel)) (goodIn_sub (fun _ h => List.mem_cons_of_mem _ (List.mem_append_right _ h)) (by decide +kernel))
set_option maxRecDepth 20000 in
theorem gX4_rightsNow_X4_folderAt : GoodIn wsX4_rightsNow (wsV RX4 71 RX4 yX4_folderAt wsX4_folderAt) := goodIn_app (goodIn_of _ (by decide +kernel)) ggX4_rightsNow_X4_folderAt
set_option maxRecDepth 20000 in
theorem ggX4_rightsNow_X4_currentRights : GoodIn wsX4_rightsNow wsX4_currentRights := goodIn_r _ [39, 40, 41, 42, 43, 44, 3, 45, 46, 47, 48, 49, 50, 13, 14, 15, 16, 17, 18, 19, 20, 21, 22, 23, 24, 25, 26, 27, 28, 29, 30, 31, 32, 33, 34, 35, 51, 52, 53, 54, 55, 56, 57, 58, 59, 60, 61, 62, 63, 64, 65, 66, 67, 68, 69, 70, 71, 72, 73, 74, 75, 76, 77, 78, 85, 86, 87, 88, 89, 90, 91, 92, 93, 94, 95, 82, 83, 84, 79, 80, 81, 96, 97, 98] (by decide +kernel) (by decide +kernel)
set_option maxRecDepth 20000 in
theorem gX4_rightsNow_X4_currentRights : GoodIn wsX4_rightsNow (wsV RX4 173 RX4 yX4_currentRights wsX4_currentRights) := goodIn_app (goodIn_of _ (by decide +kernel)) ggX4_rightsNow_X4_currentRights
set_option maxRecDepth 20000 in
theorem ggX4_gainers_X4_folderAt : GoodIn wsX4_gainers wsX4_folderAt := goodIn_ca (goodIn_r _ [5, 6, 7, 8, 9, 10, 11, 12, 13, 14, 15, 16, 17, 18, 19, 20, 21, 22, 23, 24, 25, 26, 27, 28, 29, 30, 31, 32, 76, 77, 78, 79, 80, 81] (by decide +kernel) (by decide +kernel)) (goodIn_sub (fun _ h => List.mem_cons_of_mem _ (List.mem_append_right _ h)) (by decide +kernel))
set_option maxRecDepth 20000 in
theorem gX4_gainers_X4_folderAt : GoodIn wsX4_gainers (wsV RX4 71 RX4 yX4_folderAt wsX4_folderAt) := goodIn_app (goodIn_of _ (by decide +kernel)) ggX4_gainers_X4_folderAt
set_option maxRecDepth 20000 in
theorem ggX4_gainers_X4_currentRights : GoodIn wsX4_gainers wsX4_currentRights := goodIn_r _ [36, 37, 38, 39, 40, 41, 4, 42, 43, 44, 45, 46, 47, 10, 11, 12, 13, 14, 15, 16, 17, 18, 19, 20, 21, 22, 23, 24, 25, 26, 27, 28, 29, 30, 31, 32, 48, 49, 50, 51, 52, 53, 54, 55, 56, 57, 58, 59, 60, 61, 62, 63, 64, 65, 66, 67, 68, 69, 70, 71, 72, 73, 74, 75, 82, 83, 84, 85, 86, 87, 88, 89, 90, 91, 92, 79, 80, 81, 76, 77, 78, 93, 94, 95] (by decide +kernel) (by decide +kernel)
set_option maxRecDepth 20000 in
theorem gX4_gainers_X4_currentRights : GoodIn wsX4_gainers (wsV RX4 173 RX4 yX4_currentRights wsX4_currentRights) := goodIn_app (goodIn_of _ (by decide +kernel)) ggX4_gainers_X4_currentRights
set_option maxRecDepth 20000 in
theorem ggX4_gainers_X4_rightsByEntries : GoodIn wsX4_gainers wsX4_rightsByEntries := goodIn_r _ [42, 43, 44, 45, 46, 47, 10, 11, 12, 13, 14, 15, 16, 17, 18, 19, 20, 21, 22, 23, 24, 25, 26, 27, 28, 29, 30, 31, 32, 48, 49, 50, 51, 52, 53, 54, 55, 56, 4, 57, 58, 59, 60, 61, 62, 63, 64, 65, 66, 67, 68, 69, 70, 71, 72, 73, 74, 75, 82, 83, 84, 85, 86, 87, 88, 89, 90, 91, 92, 79, 80, 81, 76, 77, 78, 93, 94, 95] (by decide +kernel) (by decide +kernel)
set_option maxRecDepth 20000 in
theorem gX4_gainers_X4_rightsByEntries : GoodIn wsX4_gainers (wsV RX4 118 RX4 yX4_rightsByEntries wsX4_rightsByEntries) := goodIn_app (goodIn_of _ (by decide +kernel)) ggX4_gainers_X4_rightsByEntries
set_option maxRecDepth 20000 in
theorem ggX4_folderAt_Jx4a65c_size_8abf5 : GoodIn wsX4_folderAt wsJx4a65c_size_8abf5 := goodIn_r _ [9, 10, 31, 32, 33] (by decide +kernel) (by decide +kernel)
set_option maxRecDepth 20000 in
theorem gX4_folderAt_Jx4a65c_size_8abf5 : GoodIn wsX4_folderAt (wsV RX4 75 RJx4a65c yJx4a65c_size_8abf5 wsJx4a65c_size_8abf5) := goodIn_app (goodIn_of _ (by decide +kernel)) ggX4_folderAt_Jx4a65c_size_8abf5
set_option maxRecDepth 20000 in
theorem ggX4_folderAt_Jx4a65c_get_915e3 : GoodIn wsX4_folderAt wsJx4a65c_get_915e3 := goodIn_r _ [14, 10, 15, 16, 17, 18, 19, 20, 21, 22, 23, 24, 25, 8, 26, 27, 31, 32, 33] (by decide +kernel) (by decide +kernel)
set_option maxRecDepth 20000 in
theorem gX4_folderAt_Jx4a65c_get_915e3 : GoodIn wsX4_folderAt (wsV RX4 155 RJx4a65c yJx4a65c_get_915e3 wsJx4a65c_get_915e3) := goodIn_app (goodIn_of _ (by decide +kernel)) ggX4_folderAt_Jx4a65c_get_915e3
set_option maxRecDepth 20000 in
theorem ggX4_isFor_X2_everyoneIn : GoodIn wsX4_isFor wsX2_everyoneIn := goodIn_r _ [7, 8, 20, 21, 22] (by decide +kernel) (by decide +kernel)
set_option maxRecDepth 20000 in
theorem gX4_isFor_X2_everyoneIn : GoodIn wsX4_isFor (wsV RX4 68 RX2 yX2_everyoneIn wsX2_everyoneIn) := goodIn_app (goodIn_of _ (by decide +kernel)) ggX4_isFor_X2_everyoneIn
set_option maxRecDepth 20000 in
theorem ggX4_isFor_X4_contains : GoodIn wsX4_isFor wsX4_contains := goodIn_r _ [12] (by decide +kernel) (by decide +kernel)
set_option maxRecDepth 20000 in
theorem gX4_isFor_X4_contains : GoodIn wsX4_isFor (va_wsS RX4 54 yX4_contains wsX4_contains) := goodIn_app (goodIn_of _ (by decide +kernel)) ggX4_isFor_X4_contains
set_option maxRecDepth 20000 in
theorem ggX4_rightsByEntries_Jx4a65c_size_8abf5 : GoodIn wsX4_rightsByEntries wsJx4a65c_size_8abf5 := goodIn_r _ [10, 11, 69, 70, 71] (by decide +kernel) (by decide +kernel)
set_option maxRecDepth 20000 in
theorem gX4_rightsByEntries_Jx4a65c_size_8abf5 : GoodIn wsX4_rightsByEntries (wsV RX4 75 RJx4a65c yJx4a65c_size_8abf5 wsJx4a65c_size_8abf5) := goodIn_app (goodIn_of _ (by decide +kernel)) ggX4_rightsByEntries_Jx4a65c_size_8abf5
set_option maxRecDepth 20000 in
theorem ggX4_rightsByEntries_Jx4a65c_get_915e3 : GoodIn wsX4_rightsByEntries wsJx4a65c_get_915e3 := goodIn_r _ [15, 11, 16, 17, 18, 19, 20, 21, 22, 23, 24, 25, 26, 9, 27, 28, 69, 70, 71] (by decide +kernel) (by decide +kernel)
set_option maxRecDepth 20000 in
theorem gX4_rightsByEntries_Jx4a65c_get_915e3 : GoodIn wsX4_rightsByEntries (wsV RX4 155 RJx4a65c yJx4a65c_get_915e3 wsJx4a65c_get_915e3) := goodIn_app (goodIn_of _ (by decide +kernel)) ggX4_rightsByEntries_Jx4a65c_get_915e3
set_option maxRecDepth 20000 in
theorem ggX4_rightsByEntries_X0_counts : GoodIn wsX4_rightsByEntries wsX0_counts := goodIn_r _ [33, 34, 65, 66, 67, 68] (by decide +kernel) (by decide +kernel)
set_option maxRecDepth 20000 in
theorem gX4_rightsByEntries_X0_counts : GoodIn wsX4_rightsByEntries (wsV RX4 185 RX0 yX0_counts wsX0_counts) := goodIn_app (goodIn_of _ (by decide +kernel)) ggX4_rightsByEntries_X0_counts
set_option maxRecDepth 20000 in
theorem ggX4_rightsByEntries_X4_isFor : GoodIn wsX4_rightsByEntries wsX4_isFor := goodIn_r _ [39, 40, 41, 42, 43, 44, 45, 46, 47, 48, 49, 38, 50, 65, 66, 67, 68, 72, 73, 74, 75, 76, 77] (by decide +kernel) (by decide +kernel)
set_option maxRecDepth 20000 in
theorem gX4_rightsByEntries_X4_isFor : GoodIn wsX4_rightsByEntries (wsV RX4 189 RX4 yX4_isFor wsX4_isFor) := goodIn_app (goodIn_of _ (by decide +kernel)) ggX4_rightsByEntries_X4_isFor
set_option maxRecDepth 20000 in
theorem ggX4_rightsByEntries_X1_inheritsFrom : GoodIn wsX4_rightsByEntries wsX1_inheritsFrom := goodIn_r _ [55, 56, 57, 58, 59, 60, 61, 62, 63, 64] (by decide +kernel) (by decide +kernel)
set_option maxRecDepth 20000 in
theorem gX4_rightsByEntries_X1_inheritsFrom : GoodIn wsX4_rightsByEntries (wsV RX4 196 RX1 yX1_inheritsFrom wsX1_inheritsFrom) := goodIn_app (goodIn_of _ (by decide +kernel)) ggX4_rightsByEntries_X1_inheritsFrom
set_option maxRecDepth 20000 in
theorem ggX4_rightsByOverruling_X1_levelsInherited : GoodIn wsX4_rightsByOverruling wsX1_levelsInherited := goodIn_r _ [10, 11, 12, 13, 9, 14, 15, 16, 66, 67, 68, 69, 70, 71, 72] (by decide +kernel) (by decide +kernel)
set_option maxRecDepth 20000 in
theorem gX4_rightsByOverruling_X1_levelsInherited : GoodIn wsX4_rightsByOverruling (wsV RX4 200 RX1 yX1_levelsInherited wsX1_levelsInherited) := goodIn_app (goodIn_of _ (by decide +kernel)) ggX4_rightsByOverruling_X1_levelsInherited
set_option maxRecDepth 20000 in
theorem ggX4_rightsByOverruling_X1_above : GoodIn wsX4_rightsByOverruling wsX1_above := goodIn_r _ [20, 16, 66, 67, 68, 69, 70, 71, 72] (by decide +kernel) (by decide +kernel)
set_option maxRecDepth 20000 in
theorem gX4_rightsByOverruling_X1_above : GoodIn wsX4_rightsByOverruling (wsV RX4 203 RX1 yX1_above wsX1_above) := goodIn_app (goodIn_of _ (by decide +kernel)) ggX4_rightsByOverruling_X1_above
set_option maxRecDepth 20000 in
theorem ggX4_rightsByOverruling_Jx4a65c_size_8abf5 : GoodIn wsX4_rightsByOverruling wsJx4a65c_size_8abf5 := goodIn_r _ [25, 26, 77, 78, 79] (by decide +kernel) (by decide +kernel)
set_option maxRecDepth 20000 in
theorem gX4_rightsByOverruling_Jx4a65c_size_8abf5 : GoodIn wsX4_rightsByOverruling (wsV RX4 75 RJx4a65c yJx4a65c_size_8abf5 wsJx4a65c_size_8abf5) := goodIn_app (goodIn_of _ (by decide +kernel)) ggX4_rightsByOverruling_Jx4a65c_size_8abf5
set_option maxRecDepth 20000 in
theorem ggX4_rightsByOverruling_Jx4a65c_get_915e3 : GoodIn wsX4_rightsByOverruling wsJx4a65c_get_915e3 := goodIn_r _ [30, 26, 31, 32, 33, 34, 35, 36, 37, 38, 39, 40, 41, 24, 42, 43, 77, 78, 79] (by decide +kernel) (by decide +kernel)
set_option maxRecDepth 20000 in
theorem gX4_rightsByOverruling_Jx4a65c_get_915e3 : GoodIn wsX4_rightsByOverruling (wsV RX4 155 RJx4a65c yJx4a65c_get_915e3 wsJx4a65c_get_915e3) := goodIn_app (goodIn_of _ (by decide +kernel)) ggX4_rightsByOverruling_Jx4a65c_get_915e3
set_option maxRecDepth 20000 in
theorem ggX4_rightsByOverruling_X0_counts : GoodIn wsX4_rightsByOverruling wsX0_counts := goodIn_r _ [48, 49, 73, 74, 75, 76] (by decide +kernel) (by decide +kernel)
set_option maxRecDepth 20000 in
theorem gX4_rightsByOverruling_X0_counts : GoodIn wsX4_rightsByOverruling (wsV RX4 185 RX0 yX0_counts wsX0_counts) := goodIn_app (goodIn_of _ (by decide +kernel)) ggX4_rightsByOverruling_X0_counts
set_option maxRecDepth 20000 in
theorem ggX4_rightsByOverruling_X4_isFor : GoodIn wsX4_rightsByOverruling wsX4_isFor := goodIn_r _ [54, 55, 56, 57, 58, 59, 60, 61, 62, 63, 64, 53, 65, 73, 74, 75, 76, 80, 81, 82, 83, 84, 85] (by decide +kernel) (by decide +kernel)
set_option maxRecDepth 20000 in
theorem gX4_rightsByOverruling_X4_isFor : GoodIn wsX4_rightsByOverruling (wsV RX4 189 RX4 yX4_isFor wsX4_isFor) := goodIn_app (goodIn_of _ (by decide +kernel)) ggX4_rightsByOverruling_X4_isFor
set_option maxRecDepth 20000 in
theorem ggX4_currentRights_X4_rightsByEntries : GoodIn wsX4_currentRights wsX4_rightsByEntries := goodIn_r _ [7, 8, 9, 10, 11, 12, 13, 14, 15, 16, 17, 18, 19, 20, 21, 22, 23, 24, 25, 26, 27, 28, 29, 30, 31, 32, 33, 34, 35, 36, 37, 38, 39, 40, 41, 42, 43, 44, 6, 45, 46, 47, 48, 49, 50, 51, 52, 53, 54, 55, 56, 57, 58, 59, 60, 61, 62, 63, 64, 65, 66, 67, 68, 69, 70, 71, 72, 73, 74, 75, 76, 77, 78, 79, 80, 81, 82, 83] (by decide +kernel) (by decide +kernel)
set_option maxRecDepth 20000 in
theorem gX4_currentRights_X4_rightsByEntries : GoodIn wsX4_currentRights (wsV RX4 118 RX4 yX4_rightsByEntries wsX4_rightsByEntries) := goodIn_app (goodIn_of _ (by decide +kernel)) ggX4_currentRights_X4_rightsByEntries
set_option maxRecDepth 20000 in
theorem ggX4_findHeld_X4_rightsByEntries : GoodIn wsX4_findHeld wsX4_rightsByEntries := goodIn_r _ [7, 8, 9, 10, 11, 12, 13, 14, 15, 16, 17, 18, 19, 20, 21, 22, 23, 24, 25, 26, 27, 28, 29, 30, 31, 32, 33, 34, 35, 36, 37, 38, 39, 40, 41, 42, 43, 44, 6, 45, 46, 47, 48, 49, 50, 51, 52, 53, 54, 55, 56, 57, 58, 59, 60, 61, 62, 63, 74, 75, 76, 77, 78, 79, 80, 81, 82, 83, 84, 85, 86, 87, 64, 65, 66, 88, 89, 90] (by decide +kernel) (by decide +kernel)
set_option maxRecDepth 20000 in
theorem gX4_findHeld_X4_rightsByEntries : GoodIn wsX4_findHeld (wsV RX4 118 RX4 yX4_rightsByEntries wsX4_rightsByEntries) := goodIn_app (goodIn_of _ (by decide +kernel)) ggX4_findHeld_X4_rightsByEntries
set_option maxRecDepth 20000 in
theorem ggX4_mapWith_X2_everyoneIn : GoodIn wsX4_mapWith wsX2_everyoneIn := goodIn_r _ [8, 9, 58, 59, 60] (by decide +kernel) (by decide +kernel)
set_option maxRecDepth 20000 in
theorem gX4_mapWith_X2_everyoneIn : GoodIn wsX4_mapWith (wsV RX4 68 RX2 yX2_everyoneIn wsX2_everyoneIn) := goodIn_app (goodIn_of _ (by decide +kernel)) ggX4_mapWith_X2_everyoneIn
set_option maxRecDepth 20000 in
theorem ggX4_mapWith_X3_make : GoodIn wsX4_mapWith wsX3_make := goodIn_r _ [14, 15, 16, 17, 18, 19, 20, 13, 21, 22, 23, 24, 25, 26, 27, 28, 29, 30, 31, 32, 33, 34, 35, 36, 37, 38, 39, 40, 41, 42, 43, 44, 45, 46, 47, 61, 62, 63, 64, 65, 66, 67] (by decide +kernel) (by decide +kernel)
set_option maxRecDepth 20000 in
theorem gX4_mapWith_X3_make : GoodIn wsX4_mapWith (wsV RX4 212 RX3 yX3_make wsX3_make) := goodIn_app (goodIn_of _ (by decide +kernel)) ggX4_mapWith_X3_make
set_option maxRecDepth 20000 in
theorem ggX4_mappingOf_X4_findHeld : GoodIn wsX4_mappingOf wsX4_findHeld := goodIn_r _ [7, 1, 8, 9, 10, 11, 6, 12, 13, 14, 15, 16, 17, 18, 19, 20, 21, 22, 23, 24, 25, 26, 27, 28, 29, 30, 31, 32, 33, 34, 35, 36, 37, 38, 39, 40, 41, 42, 43, 44, 45, 46, 47, 48, 49, 50, 51, 52, 53, 54, 55, 56, 57, 58, 59, 60, 61, 62, 63, 64, 65, 66, 67, 68, 108, 109, 110, 111, 112, 113, 114, 115, 116, 117, 118, 119, 120, 121, 122, 123, 124, 125, 126, 127, 128, 129, 130, 131, 132, 133, 134] (by decide +kernel) (by decide +kernel)
set_option maxRecDepth 20000 in
theorem gX4_mappingOf_X4_findHeld : GoodIn wsX4_mappingOf (wsV RX4 148 RX4 yX4_findHeld wsX4_findHeld) := goodIn_app (goodIn_of _ (by decide +kernel)) ggX4_mappingOf_X4_findHeld
set_option maxRecDepth 20000 in
theorem ggX4_mappingOf_X4_mapWith : GoodIn wsX4_mappingOf wsX4_mapWith := goodIn_r _ [72, 52, 1, 13, 53, 54, 55, 56, 57, 58, 73, 74, 75, 76, 77, 78, 79, 80, 81, 82, 83, 84, 85, 86, 87, 88, 89, 90, 91, 92, 60, 6, 61, 93, 94, 95, 96, 97, 98, 99, 100, 101, 102, 103, 104, 105, 106, 107, 108, 109, 110, 118, 119, 120, 121, 122, 123, 124, 132, 133, 134, 111, 112, 113, 114, 115, 116, 117] (by decide +kernel) (by decide +kernel)
set_option maxRecDepth 20000 in
theorem gX4_mappingOf_X4_mapWith : GoodIn wsX4_mappingOf (wsV RX4 152 RX4 yX4_mapWith wsX4_mapWith) := goodIn_app (goodIn_of _ (by decide +kernel)) ggX4_mappingOf_X4_mapWith
set_option maxRecDepth 20000 in
theorem ggJxc12de_init_da8c8_Jxa1e45_init_da8c8 : GoodIn wsJxc12de_init_da8c8 wsJxa1e45_init_da8c8 := goodIn_r _ [5, 6, 7, 8] (by decide +kernel) (by decide +kernel)
set_option maxRecDepth 20000 in
theorem gJxc12de_init_da8c8_Jxa1e45_init_da8c8 : GoodIn wsJxc12de_init_da8c8 (wsJxa1e45_init_da8c8) := ggJxc12de_init_da8c8_Jxa1e45_init_da8c8
set_option maxRecDepth 20000 in
theorem ggJx4a65c_init_da8c8_Jxc12de_init_da8c8 : GoodIn wsJx4a65c_init_da8c8 wsJxc12de_init_da8c8 := goodIn_r _ [6, 7, 8, 9, 10, 11, 12, 13, 14, 15, 16, 17] (by decide +kernel) (by decide +kernel)
set_option maxRecDepth 20000 in
theorem gJx4a65c_init_da8c8_Jxc12de_init_da8c8 : GoodIn wsJx4a65c_init_da8c8 (wsJxc12de_init_da8c8) := ggJx4a65c_init_da8c8_Jxc12de_init_da8c8
set_option maxRecDepth 20000 in
theorem ggJx4a65c_grow_92f84_J8_newLength_cabcc : GoodIn wsJx4a65c_grow_92f84 wsJ8_newLength_cabcc := goodIn_r _ [11, 12, 4, 5, 6, 13, 14, 15, 10, 16] (by decide +kernel) (by decide +kernel)
set_option maxRecDepth 20000 in
theorem gJx4a65c_grow_92f84_J8_newLength_cabcc : GoodIn wsJx4a65c_grow_92f84 (va_wsS RJx4a65c 73 yJ8_newLength_cabcc wsJ8_newLength_cabcc) := goodIn_app (goodIn_of _ (by decide +kernel)) ggJx4a65c_grow_92f84_J8_newLength_cabcc
set_option maxRecDepth 20000 in
theorem ggJx4a65c_grow_92f84_J7_copyOf_1904c : GoodIn wsJx4a65c_grow_92f84 wsJ7_copyOf_1904c := goodIn_r _ [20, 21, 22, 23, 24, 25, 26, 19, 27, 28, 29, 30, 31, 5, 32, 33, 34, 35, 36] (by decide +kernel) (by decide +kernel)
set_option maxRecDepth 20000 in
theorem gJx4a65c_grow_92f84_J7_copyOf_1904c : GoodIn wsJx4a65c_grow_92f84 (va_wsS RJx4a65c 66 yJ7_copyOf_1904c wsJ7_copyOf_1904c) := goodIn_app (goodIn_of _ (by decide +kernel)) ggJx4a65c_grow_92f84_J7_copyOf_1904c
set_option maxRecDepth 20000 in
theorem ggJx4a65c_grow_d5877_Jx4a65c_grow_92f84 : GoodIn wsJx4a65c_grow_d5877 wsJx4a65c_grow_92f84 := goodIn_r _ [6, 7, 8, 9, 10, 11, 12, 13, 14, 15, 16, 17, 18, 19, 20, 21, 22, 23, 24, 25, 26, 27, 28, 29, 30, 31, 32, 33, 34, 35, 36, 37, 38, 39, 40, 41, 42, 43, 44, 45] (by decide +kernel) (by decide +kernel)
set_option maxRecDepth 20000 in
theorem gJx4a65c_grow_d5877_Jx4a65c_grow_92f84 : GoodIn wsJx4a65c_grow_d5877 (wsV RJx4a65c 69 RJx4a65c yJx4a65c_grow_92f84 wsJx4a65c_grow_92f84) := goodIn_app (goodIn_of _ (by decide +kernel)) ggJx4a65c_grow_d5877_Jx4a65c_grow_92f84
set_option maxRecDepth 20000 in
theorem ggJx4a65c_get_915e3_J15_checkIndex_7cf53 : GoodIn wsJx4a65c_get_915e3 wsJ15_checkIndex_7cf53 := goodIn_r _ [5, 6, 7, 8, 9] (by decide +kernel) (by decide +kernel)
set_option maxRecDepth 20000 in
theorem gJx4a65c_get_915e3_J15_checkIndex_7cf53 : GoodIn wsJx4a65c_get_915e3 (va_wsS RJx4a65c 118 yJ15_checkIndex_7cf53 wsJ15_checkIndex_7cf53) := goodIn_app (goodIn_of _ (by decide +kernel)) ggJx4a65c_get_915e3_J15_checkIndex_7cf53
set_option maxRecDepth 20000 in
theorem ggJx4a65c_get_915e3_Jx4a65c_elementData_915e3 : GoodIn wsJx4a65c_get_915e3 wsJx4a65c_elementData_915e3 := goodIn_r _ [14, 15, 16, 17, 18] (by decide +kernel) (by decide +kernel)
set_option maxRecDepth 20000 in
theorem gJx4a65c_get_915e3_Jx4a65c_elementData_915e3 : GoodIn wsJx4a65c_get_915e3 (wsV RJx4a65c 123 RJx4a65c yJx4a65c_elementData_915e3 wsJx4a65c_elementData_915e3) := goodIn_app (goodIn_of _ (by decide +kernel)) ggJx4a65c_get_915e3_Jx4a65c_elementData_915e3
set_option maxRecDepth 20000 in
theorem ggJx4a65c_add_72be8_Jx4a65c_grow_d5877 : GoodIn wsJx4a65c_add_72be8 wsJx4a65c_grow_d5877 := goodIn_r _ [6, 1, 7, 8, 9, 5, 10, 11, 12, 13, 14, 15, 16, 17, 18, 19, 20, 21, 22, 23, 24, 25, 26, 27, 28, 29, 30, 31, 32, 33, 34, 35, 36, 37, 38, 39, 40, 41, 42, 43, 44, 45, 46, 47, 48, 49] (by decide +kernel) (by decide +kernel)
set_option maxRecDepth 20000 in
theorem gJx4a65c_add_72be8_Jx4a65c_grow_d5877 : GoodIn wsJx4a65c_add_72be8 (wsV RJx4a65c 129 RJx4a65c yJx4a65c_grow_d5877 wsJx4a65c_grow_d5877) := goodIn_app (goodIn_of _ (by decide +kernel)) ggJx4a65c_add_72be8_Jx4a65c_grow_d5877
set_option maxRecDepth 20000 in
theorem ggJx4a65c_add_9ea2d_Jx4a65c_add_72be8 : GoodIn wsJx4a65c_add_9ea2d wsJx4a65c_add_72be8 := goodIn_r _ [9, 4, 10, 11, 12, 8, 13, 14, 15, 16, 17, 3, 18, 19, 20, 21, 22, 23, 24, 25, 26, 27, 28, 29, 30, 31, 32, 33, 34, 35, 36, 37, 38, 39, 40, 41, 42, 43, 44, 45, 46, 47, 48, 49, 50, 51, 52, 53, 54, 55] (by decide +kernel) (by decide +kernel)
set_option maxRecDepth 20000 in
theorem gJx4a65c_add_9ea2d_Jx4a65c_add_72be8 : GoodIn wsJx4a65c_add_9ea2d (wsV RJx4a65c 131 RJx4a65c yJx4a65c_add_72be8 wsJx4a65c_add_72be8) := goodIn_app (goodIn_of _ (by decide +kernel)) ggJx4a65c_add_9ea2d_Jx4a65c_add_72be8
set_option maxRecDepth 20000 in
theorem ggJx4a65c_remove_915e3_J15_checkIndex_7cf53 : GoodIn wsJx4a65c_remove_915e3 wsJ15_checkIndex_7cf53 := goodIn_r _ [6, 7, 8, 9, 10] (by decide +kernel) (by decide +kernel)
set_option maxRecDepth 20000 in
theorem gJx4a65c_remove_915e3_J15_checkIndex_7cf53 : GoodIn wsJx4a65c_remove_915e3 (va_wsS RJx4a65c 118 yJ15_checkIndex_7cf53 wsJ15_checkIndex_7cf53) := goodIn_app (goodIn_of _ (by decide +kernel)) ggJx4a65c_remove_915e3_J15_checkIndex_7cf53
set_option maxRecDepth 20000 in
theorem ggJx4a65c_remove_915e3_Jx4a65c_fastRemove_b59b0 : GoodIn wsJx4a65c_remove_915e3 wsJx4a65c_fastRemove_b59b0 := goodIn_r _ [15, 16, 17, 1, 18, 19, 20, 21, 22, 23, 24] (by decide +kernel) (by decide +kernel)
set_option maxRecDepth 20000 in
theorem gJx4a65c_remove_915e3_Jx4a65c_fastRemove_b59b0 : GoodIn wsJx4a65c_remove_915e3 (wsV RJx4a65c 144 RJx4a65c yJx4a65c_fastRemove_b59b0 wsJx4a65c_fastRemove_b59b0) := goodIn_app (goodIn_of _ (by decide +kernel)) ggJx4a65c_remove_915e3_Jx4a65c_fastRemove_b59b0
set_option maxRecDepth 20000 in
theorem ggJ7_copyOf_1904c_J7_copyOf_6403c : GoodIn wsJ7_copyOf_1904c wsJ7_copyOf_6403c := goodIn_r _ [8, 9, 10, 11, 12, 13, 14, 15, 16, 17, 18] (by decide +kernel) (by decide +kernel)
set_option maxRecDepth 20000 in
theorem gJ7_copyOf_1904c_J7_copyOf_6403c : GoodIn wsJ7_copyOf_1904c (va_wsS RJ7 300 yJ7_copyOf_6403c wsJ7_copyOf_6403c) := goodIn_app (goodIn_of _ (by decide +kernel)) ggJ7_copyOf_1904c_J7_copyOf_6403c
set_option maxRecDepth 20000 in
theorem ggJ15_checkIndex_7cf53_J3_checkIndex_8e157 : GoodIn wsJ15_checkIndex_7cf53 wsJ3_checkIndex_8e157 := goodIn_r _ [4] (by decide +kernel) (by decide +kernel)
set_option maxRecDepth 20000 in
theorem gJ15_checkIndex_7cf53_J3_checkIndex_8e157 : GoodIn wsJ15_checkIndex_7cf53 (va_wsS RJ15 105 yJ3_checkIndex_8e157 wsJ3_checkIndex_8e157) := goodIn_app (goodIn_of _ (by decide +kernel)) ggJ15_checkIndex_7cf53_J3_checkIndex_8e157
set_option maxRecDepth 20000 in
theorem ggJ8_newLength_cabcc_J8_hugeLength_7cf53 : GoodIn wsJ8_newLength_cabcc wsJ8_hugeLength_7cf53 := goodIn_r _ [9, 5] (by decide +kernel) (by decide +kernel)
set_option maxRecDepth 20000 in
theorem gJ8_newLength_cabcc_J8_hugeLength_7cf53 : GoodIn wsJ8_newLength_cabcc (va_wsS RJ8 201 yJ8_hugeLength_7cf53 wsJ8_hugeLength_7cf53) := goodIn_app (goodIn_of _ (by decide +kernel)) ggJ8_newLength_cabcc_J8_hugeLength_7cf53
