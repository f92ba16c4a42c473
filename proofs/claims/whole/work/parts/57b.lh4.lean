set_option maxRecDepth 20000 in
theorem ggL_named_X4_named : GoodIn wsL_named wsX4_named := goodIn_ca (goodIn_r _ [6, 7, 8, 9, 10, 5, 11, 12, 13, 14, 15, 16, 17, 18, 19, 20, 21, 22, 23, 24, 25, 26, 27, 28, 29, 30, 31, 32, 33, 34, 35, 36, 37, 38, 39, 40, 41, 42, 43, 44, 45, 46, 47, 48, 49, 50, 51, 52, 53, 54, 55, 56, 57, 58, 59, 60, 61, 62, 63, 64, 65, 66, 67, 68, 69, 70, 71, 72, 73, 74, 75, 76, 77, 78, 79, 80, 81, 82, 83, 84, 85, 86, 87, 88, 89, 90, 91, 92, 93, 94, 95, 96, 97, 98, 99, 100, 101, 102, 103, 104, 105, 106, 107, 108, 109, 110, 111, 112, 113, 114, 115, 116, 117, 118, 119, 120, 121, 122, 123, 124, 125, 126, 127, 128, 129, 130, 131, 132, 133, 134, 135, 136, 137, 138, 139, 140, 141, 142, 143, 144, 145, 146, 147, 148, 149, 150, 151, 152] (by decide +kernel) (by decide +kernel)) (goodIn_sub (fun _ h => List.mem_cons_of_mem _ (List.mem_append_right _ h)) (by decide +kernel))
set_option maxRecDepth 20000 in
theorem gL_named_X4_named : GoodIn wsL_named (wsV RL 57 RX4 yX4_named wsX4_named) := goodIn_app (goodIn_of _ (by decide +kernel)) ggL_named_X4_named
theorem dL_named_0 : decode cL_named 0 = .ok (.aload_n 2, 1) := by decide +kernel
theorem dL_named_1 : decode cL_named 1 = .ok (.iconst 0, 1) := by decide +kernel
theorem dL_named_2 : decode cL_named 2 = .ok (.aload_n 0, 1) := by decide +kernel
theorem dL_named_3 : decode cL_named 3 = .ok (.iload_n 1, 1) := by decide +kernel
theorem dL_named_4 : decode cL_named 4 = .ok (.invokevirtual 57, 3) := by decide +kernel
theorem dL_named_7 : decode cL_named 7 = .ok (.i2l, 1) := by decide +kernel
theorem dL_named_8 : decode cL_named 8 = .ok (.lastore, 1) := by decide +kernel
theorem dL_named_9 : decode cL_named 9 = .ok (.goto 6, 3) := by decide +kernel
theorem dL_named_12 : decode cL_named 12 = .ok (.astore_n 3, 1) := by decide +kernel
theorem dL_named_13 : decode cL_named 13 = .ok (.iconst 1, 1) := by decide +kernel
theorem dL_named_14 : decode cL_named 14 = .ok (.ireturn, 1) := by decide +kernel
theorem dL_named_15 : decode cL_named 15 = .ok (.iconst 0, 1) := by decide +kernel
theorem dL_named_16 : decode cL_named 16 = .ok (.ireturn, 1) := by decide +kernel
set_option maxRecDepth 20000 in
theorem ggL_mapped_X4_mapped : GoodIn wsL_mapped wsX4_mapped := goodIn_ca (goodIn_r _ [6, 7, 8, 9, 5, 10, 11, 12, 13, 14, 15, 16, 17, 18, 19, 20, 21, 22, 23, 24, 25, 26, 27, 28, 29, 30, 31, 32, 33, 34, 35, 36, 37, 38, 39, 40, 41, 42, 43, 44, 45, 46, 47, 48, 49, 50, 51, 52, 53, 54, 55, 56, 57, 58, 59, 60, 61, 62, 63, 64, 65, 66, 67, 68, 69, 70, 71, 72, 73, 74, 75, 76, 77, 78, 79, 80, 81, 82, 83, 84, 85, 86, 87, 88, 89, 90, 91, 92, 93, 94, 95, 96, 97, 98, 99, 100, 101, 102, 103, 104, 105, 106, 107, 108, 109, 110, 111, 112, 113, 114, 115, 116, 117, 118, 119, 120, 121, 122, 123, 124, 125, 126, 127, 128, 129, 130, 131, 132, 133, 134, 135, 136, 137, 138, 139, 140, 141, 142, 143, 144, 145, 146, 147, 148, 149, 150, 151, 152, 153, 154, 155] (by decide +kernel) (by decide +kernel)) (goodIn_sub (fun _ h => List.mem_cons_of_mem _ (List.mem_append_right _ h)) (by decide +kernel))
set_option maxRecDepth 20000 in
theorem gL_mapped_X4_mapped : GoodIn wsL_mapped (wsV RL 60 RX4 yX4_mapped wsX4_mapped) := goodIn_app (goodIn_of _ (by decide +kernel)) ggL_mapped_X4_mapped
theorem dL_mapped_0 : decode cL_mapped 0 = .ok (.aload_n 3, 1) := by decide +kernel
theorem dL_mapped_1 : decode cL_mapped 1 = .ok (.iconst 0, 1) := by decide +kernel
theorem dL_mapped_2 : decode cL_mapped 2 = .ok (.aload_n 0, 1) := by decide +kernel
theorem dL_mapped_3 : decode cL_mapped 3 = .ok (.iload_n 1, 1) := by decide +kernel
theorem dL_mapped_4 : decode cL_mapped 4 = .ok (.iload_n 2, 1) := by decide +kernel
theorem dL_mapped_5 : decode cL_mapped 5 = .ok (.invokevirtual 60, 3) := by decide +kernel
theorem dL_mapped_8 : decode cL_mapped 8 = .ok (.i2l, 1) := by decide +kernel
theorem dL_mapped_9 : decode cL_mapped 9 = .ok (.lastore, 1) := by decide +kernel
theorem dL_mapped_10 : decode cL_mapped 10 = .ok (.goto 7, 3) := by decide +kernel
theorem dL_mapped_13 : decode cL_mapped 13 = .ok (.astore 4, 2) := by decide +kernel
theorem dL_mapped_15 : decode cL_mapped 15 = .ok (.iconst 1, 1) := by decide +kernel
theorem dL_mapped_16 : decode cL_mapped 16 = .ok (.ireturn, 1) := by decide +kernel
theorem dL_mapped_17 : decode cL_mapped 17 = .ok (.iconst 0, 1) := by decide +kernel
theorem dL_mapped_18 : decode cL_mapped 18 = .ok (.ireturn, 1) := by decide +kernel
set_option maxRecDepth 20000 in
theorem ggL_loss_X4_loss : GoodIn wsL_loss wsX4_loss := goodIn_ca (goodIn_r _ [6, 7, 8, 9, 10, 5, 11, 12, 13, 14, 15, 16, 17, 18, 19, 20, 21, 22, 23, 24, 25, 26, 27, 28, 29, 30, 31, 32, 33, 34, 35, 36, 37, 38, 39, 40, 41, 42, 43, 44, 45, 46, 47, 48, 49, 50, 51, 52, 53, 54, 55, 56, 57, 58, 59, 60, 61, 62, 63, 64, 65, 66, 67, 68, 69, 70, 71, 72, 73, 74, 75, 76, 77, 78, 79, 80, 81, 82, 83, 84, 85, 86, 87, 88, 89, 90, 91, 92, 93, 94, 95, 96, 97, 98, 99, 100, 101, 102, 103, 104, 105, 106, 107, 108, 109, 110, 111, 112, 113, 114, 115, 116, 117, 118, 119, 120, 121, 122, 123, 124, 125, 126, 127, 128, 129, 130, 131, 132, 133, 134, 135, 136, 137, 138, 139, 140, 141, 142, 143, 144, 145, 146, 147, 148, 149, 150, 151] (by decide +kernel) (by decide +kernel)) (goodIn_sub (fun _ h => List.mem_cons_of_mem _ (List.mem_append_right _ h)) (by decide +kernel))
set_option maxRecDepth 20000 in
theorem gL_loss_X4_loss : GoodIn wsL_loss (wsV RL 63 RX4 yX4_loss wsX4_loss) := goodIn_app (goodIn_of _ (by decide +kernel)) ggL_loss_X4_loss
theorem dL_loss_0 : decode cL_loss 0 = .ok (.aload_n 2, 1) := by decide +kernel
theorem dL_loss_1 : decode cL_loss 1 = .ok (.iconst 0, 1) := by decide +kernel
theorem dL_loss_2 : decode cL_loss 2 = .ok (.aload_n 0, 1) := by decide +kernel
theorem dL_loss_3 : decode cL_loss 3 = .ok (.iload_n 1, 1) := by decide +kernel
theorem dL_loss_4 : decode cL_loss 4 = .ok (.invokevirtual 63, 3) := by decide +kernel
theorem dL_loss_7 : decode cL_loss 7 = .ok (.i2l, 1) := by decide +kernel
theorem dL_loss_8 : decode cL_loss 8 = .ok (.lastore, 1) := by decide +kernel
theorem dL_loss_9 : decode cL_loss 9 = .ok (.goto 6, 3) := by decide +kernel
theorem dL_loss_12 : decode cL_loss 12 = .ok (.astore_n 3, 1) := by decide +kernel
theorem dL_loss_13 : decode cL_loss 13 = .ok (.iconst 1, 1) := by decide +kernel
theorem dL_loss_14 : decode cL_loss 14 = .ok (.ireturn, 1) := by decide +kernel
theorem dL_loss_15 : decode cL_loss 15 = .ok (.iconst 0, 1) := by decide +kernel
theorem dL_loss_16 : decode cL_loss 16 = .ok (.ireturn, 1) := by decide +kernel
set_option maxRecDepth 20000 in
theorem ggL_lossWith_X4_lossWith : GoodIn wsL_lossWith wsX4_lossWith := goodIn_ca (goodIn_r _ [6, 7, 8, 9, 10, 11, 5, 12, 13, 14, 15, 16, 17, 18, 19, 20, 21, 22, 23, 24, 25, 26, 27, 28, 29, 30, 31, 32, 33, 34, 35, 36, 37, 38, 39, 40, 41, 42, 43, 44, 45, 46, 47, 48, 49, 50, 51, 52, 53, 54, 55, 56, 57, 58, 59, 60, 61, 62, 63, 64, 65, 66, 67, 68, 69, 70, 71, 72, 73, 74, 75, 76, 77, 78, 79, 80, 81, 82, 83, 84, 85, 86, 87, 88, 89, 90, 91, 92, 93, 94, 95, 96, 97, 98, 99, 100, 101, 102, 103, 104, 105, 106, 107, 108, 109, 110, 111, 112, 113, 114, 115, 116, 117, 118, 119, 120, 121, 122, 123, 124, 125, 126, 127, 128, 129, 130, 131, 132, 133, 134, 135, 136, 137, 138, 139, 140, 141, 142, 143, 144, 145, 146, 147, 148, 149, 150] (by decide +kernel) (by decide +kernel)) (goodIn_sub (fun _ h => List.mem_cons_of_mem _ (List.mem_append_right _ h)) (by decide +kernel))
set_option maxRecDepth 20000 in
theorem gL_lossWith_X4_lossWith : GoodIn wsL_lossWith (wsV RL 66 RX4 yX4_lossWith wsX4_lossWith) := goodIn_app (goodIn_of _ (by decide +kernel)) ggL_lossWith_X4_lossWith
theorem dL_lossWith_0 : decode cL_lossWith 0 = .ok (.aload_n 3, 1) := by decide +kernel
theorem dL_lossWith_1 : decode cL_lossWith 1 = .ok (.iconst 0, 1) := by decide +kernel
theorem dL_lossWith_2 : decode cL_lossWith 2 = .ok (.aload_n 0, 1) := by decide +kernel
theorem dL_lossWith_3 : decode cL_lossWith 3 = .ok (.iload_n 1, 1) := by decide +kernel
theorem dL_lossWith_4 : decode cL_lossWith 4 = .ok (.iload_n 2, 1) := by decide +kernel
theorem dL_lossWith_5 : decode cL_lossWith 5 = .ok (.invokevirtual 66, 3) := by decide +kernel
theorem dL_lossWith_8 : decode cL_lossWith 8 = .ok (.i2l, 1) := by decide +kernel
theorem dL_lossWith_9 : decode cL_lossWith 9 = .ok (.lastore, 1) := by decide +kernel
theorem dL_lossWith_10 : decode cL_lossWith 10 = .ok (.goto 7, 3) := by decide +kernel
theorem dL_lossWith_13 : decode cL_lossWith 13 = .ok (.astore 4, 2) := by decide +kernel
theorem dL_lossWith_15 : decode cL_lossWith 15 = .ok (.iconst 1, 1) := by decide +kernel
theorem dL_lossWith_16 : decode cL_lossWith 16 = .ok (.ireturn, 1) := by decide +kernel
theorem dL_lossWith_17 : decode cL_lossWith 17 = .ok (.iconst 0, 1) := by decide +kernel
theorem dL_lossWith_18 : decode cL_lossWith 18 = .ok (.ireturn, 1) := by decide +kernel
