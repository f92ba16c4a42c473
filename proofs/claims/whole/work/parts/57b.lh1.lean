set_option maxRecDepth 20000 in
theorem ggL_addFolder_X4_addFolder : GoodIn wsL_addFolder wsX4_addFolder := goodIn_ca (goodIn_ca (goodIn_r _ [7, 8, 9, 10, 11, 12, 13, 14, 15, 16, 6, 17, 18, 19, 20, 21, 22, 23, 24, 25, 26, 27, 28, 29, 30, 31, 32, 33, 34, 35, 36, 37, 38, 39, 40, 41, 42, 43, 44, 45, 46, 47, 48, 49, 50, 51, 52, 53, 54, 55, 56, 57, 58, 59, 60, 61, 62, 63, 64, 65, 66, 67, 68, 69, 70, 71, 72, 73, 74, 75, 76, 77, 78, 79, 80, 81, 82, 83, 84, 85, 86, 87, 88, 89, 90, 91, 92, 93, 94, 95, 96, 97, 98, 99, 100, 101, 102, 103, 104, 105, 106, 107, 108, 109, 110, 111, 112, 113, 114, 115, 116, 117, 118, 119, 120, 121, 122, 123, 124, 125, 126, 127, 128, 129, 130, 131, 132, 133, 134, 135, 136, 137, 138, 139, 140, 141] (by decide +kernel) (by decide +kernel)) (goodIn_sub (fun _ h => List.mem_cons_of_mem _ (List.mem_append_left _ (List.mem_append_right _ h))) (by decide +kernel))) (goodIn_sub (fun _ h => List.mem_cons_of_mem _ (List.mem_append_right _ h)) (by decide +kernel))
set_option maxRecDepth 20000 in
theorem gL_addFolder_X4_addFolder : GoodIn wsL_addFolder (wsV RL 25 RX4 yX4_addFolder wsX4_addFolder) := goodIn_app (goodIn_of _ (by decide +kernel)) ggL_addFolder_X4_addFolder
theorem dL_addFolder_0 : decode cL_addFolder 0 = .ok (.aload_n 3, 1) := by decide +kernel
theorem dL_addFolder_1 : decode cL_addFolder 1 = .ok (.iconst 0, 1) := by decide +kernel
theorem dL_addFolder_2 : decode cL_addFolder 2 = .ok (.aload_n 0, 1) := by decide +kernel
theorem dL_addFolder_3 : decode cL_addFolder 3 = .ok (.iload_n 1, 1) := by decide +kernel
theorem dL_addFolder_4 : decode cL_addFolder 4 = .ok (.iload_n 2, 1) := by decide +kernel
theorem dL_addFolder_5 : decode cL_addFolder 5 = .ok (.invokevirtual 25, 3) := by decide +kernel
theorem dL_addFolder_8 : decode cL_addFolder 8 = .ok (.i2l, 1) := by decide +kernel
theorem dL_addFolder_9 : decode cL_addFolder 9 = .ok (.lastore, 1) := by decide +kernel
theorem dL_addFolder_10 : decode cL_addFolder 10 = .ok (.goto 11, 3) := by decide +kernel
theorem dL_addFolder_13 : decode cL_addFolder 13 = .ok (.astore 4, 2) := by decide +kernel
theorem dL_addFolder_15 : decode cL_addFolder 15 = .ok (.iconst 1, 1) := by decide +kernel
theorem dL_addFolder_16 : decode cL_addFolder 16 = .ok (.ireturn, 1) := by decide +kernel
theorem dL_addFolder_17 : decode cL_addFolder 17 = .ok (.astore 4, 2) := by decide +kernel
theorem dL_addFolder_19 : decode cL_addFolder 19 = .ok (.iconst 2, 1) := by decide +kernel
theorem dL_addFolder_20 : decode cL_addFolder 20 = .ok (.ireturn, 1) := by decide +kernel
theorem dL_addFolder_21 : decode cL_addFolder 21 = .ok (.iconst 0, 1) := by decide +kernel
theorem dL_addFolder_22 : decode cL_addFolder 22 = .ok (.ireturn, 1) := by decide +kernel
