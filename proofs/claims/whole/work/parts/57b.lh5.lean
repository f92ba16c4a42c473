set_option maxRecDepth 20000 in
theorem ggL_isFresh_X4_isFresh : GoodIn wsL_isFresh wsX4_isFresh := goodIn_ca (goodIn_r _ [6, 7, 8, 9, 10, 5, 11, 12, 13, 14, 15, 16, 17, 18, 19, 20, 21, 22, 23, 24, 25, 26, 27, 28, 29, 30, 31, 32, 33, 34, 35, 36, 37, 38, 39, 40, 41, 42, 43, 44, 45, 46, 47, 48, 49, 50, 51, 52, 53, 54, 55, 56, 57, 58, 59, 60, 61, 62, 63, 64, 65, 66, 67, 68, 69, 70, 71, 72, 73, 74, 75, 76, 77, 78, 79, 80, 81, 82, 83, 84, 85, 86, 87, 88, 89, 90, 91, 92, 93, 94, 95, 96, 97, 98, 99, 100, 101, 102, 103, 104, 105, 106, 107, 108, 109, 110, 111, 112, 113, 114, 115, 116, 117, 118, 119, 120, 121, 122, 123, 124, 125, 126, 127, 128, 129, 130, 131, 132, 133, 134, 135, 136, 137, 138, 139, 140, 141, 142, 143, 144, 145, 146, 147, 148, 149, 150, 151, 152, 153, 154, 155, 156, 157, 158] (by decide +kernel) (by decide +kernel)) (goodIn_sub (fun _ h => List.mem_cons_of_mem _ (List.mem_append_right _ h)) (by decide +kernel))
set_option maxRecDepth 20000 in
theorem gL_isFresh_X4_isFresh : GoodIn wsL_isFresh (wsV RL 69 RX4 yX4_isFresh wsX4_isFresh) := goodIn_app (goodIn_of _ (by decide +kernel)) ggL_isFresh_X4_isFresh
theorem dL_isFresh_0 : decode cL_isFresh 0 = .ok (.aload_n 2, 1) := by decide +kernel
theorem dL_isFresh_1 : decode cL_isFresh 1 = .ok (.iconst 0, 1) := by decide +kernel
theorem dL_isFresh_2 : decode cL_isFresh 2 = .ok (.aload_n 0, 1) := by decide +kernel
theorem dL_isFresh_3 : decode cL_isFresh 3 = .ok (.iload_n 1, 1) := by decide +kernel
theorem dL_isFresh_4 : decode cL_isFresh 4 = .ok (.invokevirtual 69, 3) := by decide +kernel
theorem dL_isFresh_7 : decode cL_isFresh 7 = .ok (.ifCond .eq 7, 3) := by decide +kernel
theorem dL_isFresh_10 : decode cL_isFresh 10 = .ok (.lconst 1, 1) := by decide +kernel
theorem dL_isFresh_11 : decode cL_isFresh 11 = .ok (.goto 4, 3) := by decide +kernel
theorem dL_isFresh_14 : decode cL_isFresh 14 = .ok (.lconst 0, 1) := by decide +kernel
theorem dL_isFresh_15 : decode cL_isFresh 15 = .ok (.lastore, 1) := by decide +kernel
theorem dL_isFresh_16 : decode cL_isFresh 16 = .ok (.goto 6, 3) := by decide +kernel
theorem dL_isFresh_19 : decode cL_isFresh 19 = .ok (.astore_n 3, 1) := by decide +kernel
theorem dL_isFresh_20 : decode cL_isFresh 20 = .ok (.iconst 1, 1) := by decide +kernel
theorem dL_isFresh_21 : decode cL_isFresh 21 = .ok (.ireturn, 1) := by decide +kernel
theorem dL_isFresh_22 : decode cL_isFresh 22 = .ok (.iconst 0, 1) := by decide +kernel
theorem dL_isFresh_23 : decode cL_isFresh 23 = .ok (.ireturn, 1) := by decide +kernel
set_option maxRecDepth 20000 in
theorem ggL_turn_X4_turn : GoodIn wsL_turn wsX4_turn := goodIn_ca (goodIn_ca (goodIn_r _ [7, 8, 9, 10, 11, 12, 13, 14, 6, 15, 16, 17, 18, 19, 20, 21, 22, 23, 24, 25, 26, 27, 28, 29, 30, 31, 32, 33, 34, 35, 36, 37, 38, 39, 40, 41, 42, 43, 44, 45, 46, 47, 48, 49, 50, 51, 52, 53, 54, 55] (by decide +kernel) (by decide +kernel)) (goodIn_sub (fun _ h => List.mem_cons_of_mem _ (List.mem_append_left _ (List.mem_append_right _ h))) (by decide +kernel))) (goodIn_sub (fun _ h => List.mem_cons_of_mem _ (List.mem_append_right _ h)) (by decide +kernel))
set_option maxRecDepth 20000 in
theorem gL_turn_X4_turn : GoodIn wsL_turn (wsV RL 73 RX4 yX4_turn wsX4_turn) := goodIn_app (goodIn_of _ (by decide +kernel)) ggL_turn_X4_turn
theorem dL_turn_0 : decode cL_turn 0 = .ok (.aload_n 2, 1) := by decide +kernel
theorem dL_turn_1 : decode cL_turn 1 = .ok (.iconst 0, 1) := by decide +kernel
theorem dL_turn_2 : decode cL_turn 2 = .ok (.aload_n 0, 1) := by decide +kernel
theorem dL_turn_3 : decode cL_turn 3 = .ok (.iload_n 1, 1) := by decide +kernel
theorem dL_turn_4 : decode cL_turn 4 = .ok (.invokevirtual 73, 3) := by decide +kernel
theorem dL_turn_7 : decode cL_turn 7 = .ok (.ifCond .eq 7, 3) := by decide +kernel
theorem dL_turn_10 : decode cL_turn 10 = .ok (.lconst 1, 1) := by decide +kernel
theorem dL_turn_11 : decode cL_turn 11 = .ok (.goto 4, 3) := by decide +kernel
theorem dL_turn_14 : decode cL_turn 14 = .ok (.lconst 0, 1) := by decide +kernel
theorem dL_turn_15 : decode cL_turn 15 = .ok (.lastore, 1) := by decide +kernel
theorem dL_turn_16 : decode cL_turn 16 = .ok (.goto 9, 3) := by decide +kernel
theorem dL_turn_19 : decode cL_turn 19 = .ok (.astore_n 3, 1) := by decide +kernel
theorem dL_turn_20 : decode cL_turn 20 = .ok (.iconst 1, 1) := by decide +kernel
theorem dL_turn_21 : decode cL_turn 21 = .ok (.ireturn, 1) := by decide +kernel
theorem dL_turn_22 : decode cL_turn 22 = .ok (.astore_n 3, 1) := by decide +kernel
theorem dL_turn_23 : decode cL_turn 23 = .ok (.iconst 2, 1) := by decide +kernel
theorem dL_turn_24 : decode cL_turn 24 = .ok (.ireturn, 1) := by decide +kernel
theorem dL_turn_25 : decode cL_turn 25 = .ok (.iconst 0, 1) := by decide +kernel
theorem dL_turn_26 : decode cL_turn 26 = .ok (.ireturn, 1) := by decide +kernel
set_option maxRecDepth 20000 in
theorem ggL_rightsNow_X4_rightsNow : GoodIn wsL_rightsNow wsX4_rightsNow := goodIn_ca (goodIn_r _ [6, 7, 8, 5, 9, 10, 11, 12, 13, 14, 15, 16, 17, 18, 19, 20, 21, 22, 23, 24, 25, 26, 27, 28, 29, 30, 31, 32, 33, 34, 35, 36, 37, 38, 39, 40, 41, 42, 43, 44, 45, 46, 47, 48, 49, 50, 51, 52, 53, 54, 55, 56, 57, 58, 59, 60, 61, 62, 63, 64, 65, 66, 67, 68, 69, 70, 71, 72, 73, 74, 75, 76, 77, 78, 79, 80, 81, 82, 83, 84, 85, 86, 87, 88, 89, 90, 91, 92, 93, 94, 95, 96, 97, 98, 99, 100, 101, 102, 103] (by decide +kernel) (by decide +kernel)) (goodIn_sub (fun _ h => List.mem_cons_of_mem _ (List.mem_append_right _ h)) (by decide +kernel))
set_option maxRecDepth 20000 in
theorem gL_rightsNow_X4_rightsNow : GoodIn wsL_rightsNow (wsV RL 76 RX4 yX4_rightsNow wsX4_rightsNow) := goodIn_app (goodIn_of _ (by decide +kernel)) ggL_rightsNow_X4_rightsNow
theorem dL_rightsNow_0 : decode cL_rightsNow 0 = .ok (.aload_n 3, 1) := by decide +kernel
theorem dL_rightsNow_1 : decode cL_rightsNow 1 = .ok (.iconst 0, 1) := by decide +kernel
theorem dL_rightsNow_2 : decode cL_rightsNow 2 = .ok (.aload_n 0, 1) := by decide +kernel
theorem dL_rightsNow_3 : decode cL_rightsNow 3 = .ok (.iload_n 1, 1) := by decide +kernel
theorem dL_rightsNow_4 : decode cL_rightsNow 4 = .ok (.iload_n 2, 1) := by decide +kernel
theorem dL_rightsNow_5 : decode cL_rightsNow 5 = .ok (.invokevirtual 76, 3) := by decide +kernel
theorem dL_rightsNow_8 : decode cL_rightsNow 8 = .ok (.i2l, 1) := by decide +kernel
theorem dL_rightsNow_9 : decode cL_rightsNow 9 = .ok (.lastore, 1) := by decide +kernel
theorem dL_rightsNow_10 : decode cL_rightsNow 10 = .ok (.goto 7, 3) := by decide +kernel
theorem dL_rightsNow_13 : decode cL_rightsNow 13 = .ok (.astore 4, 2) := by decide +kernel
theorem dL_rightsNow_15 : decode cL_rightsNow 15 = .ok (.iconst 1, 1) := by decide +kernel
theorem dL_rightsNow_16 : decode cL_rightsNow 16 = .ok (.ireturn, 1) := by decide +kernel
theorem dL_rightsNow_17 : decode cL_rightsNow 17 = .ok (.iconst 0, 1) := by decide +kernel
theorem dL_rightsNow_18 : decode cL_rightsNow 18 = .ok (.ireturn, 1) := by decide +kernel
set_option maxRecDepth 20000 in
theorem ggL_gainers_X4_gainers : GoodIn wsL_gainers wsX4_gainers := goodIn_ca (goodIn_r _ [6, 7, 8, 9, 5, 10, 11, 12, 13, 14, 15, 16, 17, 18, 19, 20, 21, 22, 23, 24, 25, 26, 27, 28, 29, 30, 31, 32, 33, 34, 35, 36, 37, 38, 39, 40, 41, 42, 43, 44, 45, 46, 47, 48, 49, 50, 51, 52, 53, 54, 55, 56, 57, 58, 59, 60, 61, 62, 63, 64, 65, 66, 67, 68, 69, 70, 71, 72, 73, 74, 75, 76, 77, 78, 79, 80, 81, 82, 83, 84, 85, 86, 87, 88, 89, 90, 91, 92, 93, 94, 95, 96, 97, 98, 99, 100] (by decide +kernel) (by decide +kernel)) (goodIn_sub (fun _ h => List.mem_cons_of_mem _ (List.mem_append_right _ h)) (by decide +kernel))
set_option maxRecDepth 20000 in
theorem gL_gainers_X4_gainers : GoodIn wsL_gainers (wsV RL 79 RX4 yX4_gainers wsX4_gainers) := goodIn_app (goodIn_of _ (by decide +kernel)) ggL_gainers_X4_gainers
theorem dL_gainers_0 : decode cL_gainers 0 = .ok (.aload_n 2, 1) := by decide +kernel
theorem dL_gainers_1 : decode cL_gainers 1 = .ok (.iconst 0, 1) := by decide +kernel
theorem dL_gainers_2 : decode cL_gainers 2 = .ok (.aload_n 0, 1) := by decide +kernel
theorem dL_gainers_3 : decode cL_gainers 3 = .ok (.iload_n 1, 1) := by decide +kernel
theorem dL_gainers_4 : decode cL_gainers 4 = .ok (.invokevirtual 79, 3) := by decide +kernel
theorem dL_gainers_7 : decode cL_gainers 7 = .ok (.i2l, 1) := by decide +kernel
theorem dL_gainers_8 : decode cL_gainers 8 = .ok (.lastore, 1) := by decide +kernel
theorem dL_gainers_9 : decode cL_gainers 9 = .ok (.goto 6, 3) := by decide +kernel
theorem dL_gainers_12 : decode cL_gainers 12 = .ok (.astore_n 3, 1) := by decide +kernel
theorem dL_gainers_13 : decode cL_gainers 13 = .ok (.iconst 1, 1) := by decide +kernel
theorem dL_gainers_14 : decode cL_gainers 14 = .ok (.ireturn, 1) := by decide +kernel
theorem dL_gainers_15 : decode cL_gainers 15 = .ok (.iconst 0, 1) := by decide +kernel
theorem dL_gainers_16 : decode cL_gainers 16 = .ok (.ireturn, 1) := by decide +kernel
