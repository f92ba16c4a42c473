set_option maxRecDepth 20000 in
theorem ggL_drop_X4_drop : GoodIn wsL_drop wsX4_drop := goodIn_ca (goodIn_r _ [6, 7, 8, 9, 10, 11, 12, 13, 14, 5, 15, 16, 17, 18, 19, 20, 21, 22, 23, 24, 25, 26, 27, 28, 29, 30, 31, 32, 33, 34, 35, 36, 37, 38, 39, 40, 41, 42, 43, 44, 45, 46, 47, 48, 49, 50, 51, 52, 53, 54, 55, 56, 57, 58, 59, 60, 61, 62, 63, 64, 65, 66, 67, 68, 69, 70, 71] (by decide +kernel) (by decide +kernel)) (goodIn_sub (fun _ h => List.mem_cons_of_mem _ (List.mem_append_right _ h)) (by decide +kernel))
set_option maxRecDepth 20000 in
theorem gL_drop_X4_drop : GoodIn wsL_drop (wsV RL 42 RX4 yX4_drop wsX4_drop) := goodIn_app (goodIn_of _ (by decide +kernel)) ggL_drop_X4_drop
theorem dL_drop_0 : decode cL_drop 0 = .ok (.aload_n 3, 1) := by decide +kernel
theorem dL_drop_1 : decode cL_drop 1 = .ok (.iconst 0, 1) := by decide +kernel
theorem dL_drop_2 : decode cL_drop 2 = .ok (.aload_n 0, 1) := by decide +kernel
theorem dL_drop_3 : decode cL_drop 3 = .ok (.iload_n 1, 1) := by decide +kernel
theorem dL_drop_4 : decode cL_drop 4 = .ok (.iload_n 2, 1) := by decide +kernel
theorem dL_drop_5 : decode cL_drop 5 = .ok (.invokevirtual 42, 3) := by decide +kernel
theorem dL_drop_8 : decode cL_drop 8 = .ok (.i2l, 1) := by decide +kernel
theorem dL_drop_9 : decode cL_drop 9 = .ok (.lastore, 1) := by decide +kernel
theorem dL_drop_10 : decode cL_drop 10 = .ok (.goto 7, 3) := by decide +kernel
theorem dL_drop_13 : decode cL_drop 13 = .ok (.astore 4, 2) := by decide +kernel
theorem dL_drop_15 : decode cL_drop 15 = .ok (.iconst 1, 1) := by decide +kernel
theorem dL_drop_16 : decode cL_drop 16 = .ok (.ireturn, 1) := by decide +kernel
theorem dL_drop_17 : decode cL_drop 17 = .ok (.iconst 0, 1) := by decide +kernel
theorem dL_drop_18 : decode cL_drop 18 = .ok (.ireturn, 1) := by decide +kernel
set_option maxRecDepth 20000 in
theorem ggL_rights_X4_rights : GoodIn wsL_rights wsX4_rights := goodIn_ca (goodIn_r _ [6, 7, 8, 5, 9, 10, 11, 12, 13, 14, 15, 16, 17, 18, 19, 20, 21, 22, 23, 24, 25, 26, 27, 28, 29, 30, 31, 32, 33, 34, 35, 36, 37, 38, 39, 40, 41, 42, 43, 44, 45, 46, 47, 48, 49, 50, 51, 52, 53, 54, 55, 56, 57, 58, 59, 60, 61, 62, 63, 64, 65, 66, 67, 68, 69, 70, 71, 72, 73, 74, 75, 76, 77, 78, 79, 80, 81, 82, 83, 84, 85, 86, 87, 88, 89, 90, 91, 92, 93, 94, 95, 96, 97] (by decide +kernel) (by decide +kernel)) (goodIn_sub (fun _ h => List.mem_cons_of_mem _ (List.mem_append_right _ h)) (by decide +kernel))
set_option maxRecDepth 20000 in
theorem gL_rights_X4_rights : GoodIn wsL_rights (wsV RL 45 RX4 yX4_rights wsX4_rights) := goodIn_app (goodIn_of _ (by decide +kernel)) ggL_rights_X4_rights
theorem dL_rights_0 : decode cL_rights 0 = .ok (.aload_n 3, 1) := by decide +kernel
theorem dL_rights_1 : decode cL_rights 1 = .ok (.iconst 0, 1) := by decide +kernel
theorem dL_rights_2 : decode cL_rights 2 = .ok (.aload_n 0, 1) := by decide +kernel
theorem dL_rights_3 : decode cL_rights 3 = .ok (.iload_n 1, 1) := by decide +kernel
theorem dL_rights_4 : decode cL_rights 4 = .ok (.iload_n 2, 1) := by decide +kernel
theorem dL_rights_5 : decode cL_rights 5 = .ok (.invokevirtual 45, 3) := by decide +kernel
theorem dL_rights_8 : decode cL_rights 8 = .ok (.i2l, 1) := by decide +kernel
theorem dL_rights_9 : decode cL_rights 9 = .ok (.lastore, 1) := by decide +kernel
theorem dL_rights_10 : decode cL_rights 10 = .ok (.goto 7, 3) := by decide +kernel
theorem dL_rights_13 : decode cL_rights 13 = .ok (.astore 4, 2) := by decide +kernel
theorem dL_rights_15 : decode cL_rights 15 = .ok (.iconst 1, 1) := by decide +kernel
theorem dL_rights_16 : decode cL_rights 16 = .ok (.ireturn, 1) := by decide +kernel
theorem dL_rights_17 : decode cL_rights 17 = .ok (.iconst 0, 1) := by decide +kernel
theorem dL_rights_18 : decode cL_rights 18 = .ok (.ireturn, 1) := by decide +kernel
set_option maxRecDepth 20000 in
theorem ggL_rightsBackwards_X4_rightsBackwards : GoodIn wsL_rightsBackwards wsX4_rightsBackwards := goodIn_ca (goodIn_r _ [6, 7, 8, 5, 9, 10, 11, 12, 13, 14, 15, 16, 17, 18, 19, 20, 21, 22, 23, 24, 25, 26, 27, 28, 29, 30, 31, 32, 33, 34, 35, 36, 37, 38, 39, 40, 41, 42, 43, 44, 45, 46, 47, 48, 49, 50, 51, 52, 53, 54, 55, 56, 57, 58, 59, 60, 61, 62, 63, 64, 65, 66, 67, 68, 69, 70, 71, 72, 73, 74, 75, 76, 77, 78, 79, 80, 81, 82, 83, 84, 85, 86, 87, 88, 89, 90, 91, 92, 93, 94, 95, 96, 97, 98, 99, 100, 101, 102, 103, 104, 105] (by decide +kernel) (by decide +kernel)) (goodIn_sub (fun _ h => List.mem_cons_of_mem _ (List.mem_append_right _ h)) (by decide +kernel))
set_option maxRecDepth 20000 in
theorem gL_rightsBackwards_X4_rightsBackwards : GoodIn wsL_rightsBackwards (wsV RL 48 RX4 yX4_rightsBackwards wsX4_rightsBackwards) := goodIn_app (goodIn_of _ (by decide +kernel)) ggL_rightsBackwards_X4_rightsBackwards
theorem dL_rightsBackwards_0 : decode cL_rightsBackwards 0 = .ok (.aload_n 3, 1) := by decide +kernel
theorem dL_rightsBackwards_1 : decode cL_rightsBackwards 1 = .ok (.iconst 0, 1) := by decide +kernel
theorem dL_rightsBackwards_2 : decode cL_rightsBackwards 2 = .ok (.aload_n 0, 1) := by decide +kernel
theorem dL_rightsBackwards_3 : decode cL_rightsBackwards 3 = .ok (.iload_n 1, 1) := by decide +kernel
theorem dL_rightsBackwards_4 : decode cL_rightsBackwards 4 = .ok (.iload_n 2, 1) := by decide +kernel
theorem dL_rightsBackwards_5 : decode cL_rightsBackwards 5 = .ok (.invokevirtual 48, 3) := by decide +kernel
theorem dL_rightsBackwards_8 : decode cL_rightsBackwards 8 = .ok (.i2l, 1) := by decide +kernel
theorem dL_rightsBackwards_9 : decode cL_rightsBackwards 9 = .ok (.lastore, 1) := by decide +kernel
theorem dL_rightsBackwards_10 : decode cL_rightsBackwards 10 = .ok (.goto 7, 3) := by decide +kernel
theorem dL_rightsBackwards_13 : decode cL_rightsBackwards 13 = .ok (.astore 4, 2) := by decide +kernel
theorem dL_rightsBackwards_15 : decode cL_rightsBackwards 15 = .ok (.iconst 1, 1) := by decide +kernel
theorem dL_rightsBackwards_16 : decode cL_rightsBackwards 16 = .ok (.ireturn, 1) := by decide +kernel
theorem dL_rightsBackwards_17 : decode cL_rightsBackwards 17 = .ok (.iconst 0, 1) := by decide +kernel
theorem dL_rightsBackwards_18 : decode cL_rightsBackwards 18 = .ok (.ireturn, 1) := by decide +kernel
set_option maxRecDepth 20000 in
theorem ggL_groupOf_X4_groupOf : GoodIn wsL_groupOf wsX4_groupOf := goodIn_ca (goodIn_r _ [6, 7, 8, 9, 10, 5, 11, 12, 13, 14, 15, 16, 17, 18, 19, 20, 21, 22, 23, 24, 25, 26, 27, 28, 29, 30, 31, 32, 33, 34, 35, 36, 37, 38, 39, 40, 41, 42, 43, 44, 45, 46, 47, 48, 49, 50, 51, 52, 53, 54, 55, 56, 57, 58, 59, 60, 61, 62, 63, 64, 65, 66, 67, 68, 69, 70, 71, 72, 73, 74, 75, 76, 77, 78, 79, 80, 81, 82, 83, 84, 85, 86, 87, 88, 89, 90, 91, 92, 93, 94, 95, 96, 97, 98, 99, 100, 101, 102, 103, 104, 105, 106, 107, 108, 109, 110, 111, 112, 113, 114, 115, 116, 117, 118, 119, 120, 121, 122, 123, 124, 125, 126, 127, 128, 129, 130, 131, 132, 133, 134, 135, 136, 137, 138, 139, 140, 141, 142, 143, 144, 145, 146, 147, 148, 149, 150, 151, 152] (by decide +kernel) (by decide +kernel)) (goodIn_sub (fun _ h => List.mem_cons_of_mem _ (List.mem_append_right _ h)) (by decide +kernel))
set_option maxRecDepth 20000 in
theorem gL_groupOf_X4_groupOf : GoodIn wsL_groupOf (wsV RL 51 RX4 yX4_groupOf wsX4_groupOf) := goodIn_app (goodIn_of _ (by decide +kernel)) ggL_groupOf_X4_groupOf
theorem dL_groupOf_0 : decode cL_groupOf 0 = .ok (.aload_n 2, 1) := by decide +kernel
theorem dL_groupOf_1 : decode cL_groupOf 1 = .ok (.iconst 0, 1) := by decide +kernel
theorem dL_groupOf_2 : decode cL_groupOf 2 = .ok (.aload_n 0, 1) := by decide +kernel
theorem dL_groupOf_3 : decode cL_groupOf 3 = .ok (.iload_n 1, 1) := by decide +kernel
theorem dL_groupOf_4 : decode cL_groupOf 4 = .ok (.invokevirtual 51, 3) := by decide +kernel
theorem dL_groupOf_7 : decode cL_groupOf 7 = .ok (.i2l, 1) := by decide +kernel
theorem dL_groupOf_8 : decode cL_groupOf 8 = .ok (.lastore, 1) := by decide +kernel
theorem dL_groupOf_9 : decode cL_groupOf 9 = .ok (.goto 6, 3) := by decide +kernel
theorem dL_groupOf_12 : decode cL_groupOf 12 = .ok (.astore_n 3, 1) := by decide +kernel
theorem dL_groupOf_13 : decode cL_groupOf 13 = .ok (.iconst 1, 1) := by decide +kernel
theorem dL_groupOf_14 : decode cL_groupOf 14 = .ok (.ireturn, 1) := by decide +kernel
theorem dL_groupOf_15 : decode cL_groupOf 15 = .ok (.iconst 0, 1) := by decide +kernel
theorem dL_groupOf_16 : decode cL_groupOf 16 = .ok (.ireturn, 1) := by decide +kernel
set_option maxRecDepth 20000 in
theorem ggL_bits_X4_bits : GoodIn wsL_bits wsX4_bits := goodIn_ca (goodIn_r _ [6, 7, 8, 9, 10, 11, 5, 12, 13, 14, 15, 16, 17, 18, 19, 20, 21, 22, 23, 24, 25, 26, 27, 28, 29, 30, 31, 32, 33, 34, 35, 36, 37, 38, 39, 40, 41, 42, 43, 44, 45, 46, 47, 48, 49, 50, 51, 52, 53, 54, 55, 56, 57, 58, 59, 60, 61, 62, 63, 64, 65, 66, 67, 68, 69, 70, 71, 72, 73, 74, 75, 76, 77, 78, 79, 80, 81, 82, 83, 84, 85, 86, 87, 88, 89, 90, 91, 92, 93, 94, 95, 96, 97, 98, 99, 100, 101, 102, 103, 104, 105, 106, 107, 108, 109, 110, 111, 112, 113, 114, 115, 116, 117, 118, 119, 120, 121, 122, 123, 124, 125, 126, 127, 128, 129, 130, 131, 132, 133, 134, 135, 136, 137, 138, 139, 140, 141, 142, 143, 144, 145, 146, 147, 148, 149, 150, 151, 152, 153] (by decide +kernel) (by decide +kernel)) (goodIn_sub (fun _ h => List.mem_cons_of_mem _ (List.mem_append_right _ h)) (by decide +kernel))
set_option maxRecDepth 20000 in
theorem gL_bits_X4_bits : GoodIn wsL_bits (wsV RL 54 RX4 yX4_bits wsX4_bits) := goodIn_app (goodIn_of _ (by decide +kernel)) ggL_bits_X4_bits
theorem dL_bits_0 : decode cL_bits 0 = .ok (.aload_n 2, 1) := by decide +kernel
theorem dL_bits_1 : decode cL_bits 1 = .ok (.iconst 0, 1) := by decide +kernel
theorem dL_bits_2 : decode cL_bits 2 = .ok (.aload_n 0, 1) := by decide +kernel
theorem dL_bits_3 : decode cL_bits 3 = .ok (.iload_n 1, 1) := by decide +kernel
theorem dL_bits_4 : decode cL_bits 4 = .ok (.invokevirtual 54, 3) := by decide +kernel
theorem dL_bits_7 : decode cL_bits 7 = .ok (.i2l, 1) := by decide +kernel
theorem dL_bits_8 : decode cL_bits 8 = .ok (.lastore, 1) := by decide +kernel
theorem dL_bits_9 : decode cL_bits 9 = .ok (.goto 6, 3) := by decide +kernel
theorem dL_bits_12 : decode cL_bits 12 = .ok (.astore_n 3, 1) := by decide +kernel
theorem dL_bits_13 : decode cL_bits 13 = .ok (.iconst 1, 1) := by decide +kernel
theorem dL_bits_14 : decode cL_bits 14 = .ok (.ireturn, 1) := by decide +kernel
theorem dL_bits_15 : decode cL_bits 15 = .ok (.iconst 0, 1) := by decide +kernel
theorem dL_bits_16 : decode cL_bits 16 = .ok (.ireturn, 1) := by decide +kernel
