set_option maxRecDepth 20000 in
theorem ggL_setOwner_X4_setOwner : GoodIn wsL_setOwner wsX4_setOwner := goodIn_ca (goodIn_r _ [6, 7, 8, 9, 10, 5, 11, 12, 13, 14, 15, 16, 17, 18, 19, 20, 21, 22, 23, 24, 25, 26, 27, 28, 29, 30, 31, 32, 33, 34, 35, 36, 37, 38, 39, 40, 41, 42, 43, 44, 45, 46, 47, 48, 49, 50, 51, 52, 53, 54] (by decide +kernel) (by decide +kernel)) (goodIn_sub (fun _ h => List.mem_cons_of_mem _ (List.mem_append_right _ h)) (by decide +kernel))
set_option maxRecDepth 20000 in
theorem gL_setOwner_X4_setOwner : GoodIn wsL_setOwner (wsV RL 29 RX4 yX4_setOwner wsX4_setOwner) := goodIn_app (goodIn_of _ (by decide +kernel)) ggL_setOwner_X4_setOwner
theorem dL_setOwner_0 : decode cL_setOwner 0 = .ok (.aload_n 3, 1) := by decide +kernel
theorem dL_setOwner_1 : decode cL_setOwner 1 = .ok (.iconst 0, 1) := by decide +kernel
theorem dL_setOwner_2 : decode cL_setOwner 2 = .ok (.aload_n 0, 1) := by decide +kernel
theorem dL_setOwner_3 : decode cL_setOwner 3 = .ok (.iload_n 1, 1) := by decide +kernel
theorem dL_setOwner_4 : decode cL_setOwner 4 = .ok (.iload_n 2, 1) := by decide +kernel
theorem dL_setOwner_5 : decode cL_setOwner 5 = .ok (.invokevirtual 29, 3) := by decide +kernel
theorem dL_setOwner_8 : decode cL_setOwner 8 = .ok (.i2l, 1) := by decide +kernel
theorem dL_setOwner_9 : decode cL_setOwner 9 = .ok (.lastore, 1) := by decide +kernel
theorem dL_setOwner_10 : decode cL_setOwner 10 = .ok (.goto 7, 3) := by decide +kernel
theorem dL_setOwner_13 : decode cL_setOwner 13 = .ok (.astore 4, 2) := by decide +kernel
theorem dL_setOwner_15 : decode cL_setOwner 15 = .ok (.iconst 1, 1) := by decide +kernel
theorem dL_setOwner_16 : decode cL_setOwner 16 = .ok (.ireturn, 1) := by decide +kernel
theorem dL_setOwner_17 : decode cL_setOwner 17 = .ok (.iconst 0, 1) := by decide +kernel
theorem dL_setOwner_18 : decode cL_setOwner 18 = .ok (.ireturn, 1) := by decide +kernel
set_option maxRecDepth 20000 in
theorem ggL_setInherits_X4_setInherits : GoodIn wsL_setInherits wsX4_setInherits := goodIn_ca (goodIn_r _ [6, 7, 8, 9, 10, 5, 11, 12, 13, 14, 15, 16, 17, 18, 19, 20, 21, 22, 23, 24, 25, 26, 27, 28, 29, 30, 31, 32, 33, 34, 35, 36, 37, 38, 39, 40, 41, 42, 43, 44, 45, 46, 47, 48, 49, 50, 51] (by decide +kernel) (by decide +kernel)) (goodIn_sub (fun _ h => List.mem_cons_of_mem _ (List.mem_append_right _ h)) (by decide +kernel))
set_option maxRecDepth 20000 in
theorem gL_setInherits_X4_setInherits : GoodIn wsL_setInherits (wsV RL 32 RX4 yX4_setInherits wsX4_setInherits) := goodIn_app (goodIn_of _ (by decide +kernel)) ggL_setInherits_X4_setInherits
theorem dL_setInherits_0 : decode cL_setInherits 0 = .ok (.aload_n 3, 1) := by decide +kernel
theorem dL_setInherits_1 : decode cL_setInherits 1 = .ok (.iconst 0, 1) := by decide +kernel
theorem dL_setInherits_2 : decode cL_setInherits 2 = .ok (.aload_n 0, 1) := by decide +kernel
theorem dL_setInherits_3 : decode cL_setInherits 3 = .ok (.iload_n 1, 1) := by decide +kernel
theorem dL_setInherits_4 : decode cL_setInherits 4 = .ok (.iload_n 2, 1) := by decide +kernel
theorem dL_setInherits_5 : decode cL_setInherits 5 = .ok (.invokevirtual 32, 3) := by decide +kernel
theorem dL_setInherits_8 : decode cL_setInherits 8 = .ok (.ifCond .eq 7, 3) := by decide +kernel
theorem dL_setInherits_11 : decode cL_setInherits 11 = .ok (.lconst 1, 1) := by decide +kernel
theorem dL_setInherits_12 : decode cL_setInherits 12 = .ok (.goto 4, 3) := by decide +kernel
theorem dL_setInherits_15 : decode cL_setInherits 15 = .ok (.lconst 0, 1) := by decide +kernel
theorem dL_setInherits_16 : decode cL_setInherits 16 = .ok (.lastore, 1) := by decide +kernel
theorem dL_setInherits_17 : decode cL_setInherits 17 = .ok (.goto 7, 3) := by decide +kernel
theorem dL_setInherits_20 : decode cL_setInherits 20 = .ok (.astore 4, 2) := by decide +kernel
theorem dL_setInherits_22 : decode cL_setInherits 22 = .ok (.iconst 1, 1) := by decide +kernel
theorem dL_setInherits_23 : decode cL_setInherits 23 = .ok (.ireturn, 1) := by decide +kernel
theorem dL_setInherits_24 : decode cL_setInherits 24 = .ok (.iconst 0, 1) := by decide +kernel
theorem dL_setInherits_25 : decode cL_setInherits 25 = .ok (.ireturn, 1) := by decide +kernel
set_option maxRecDepth 20000 in
theorem ggL_allow_X4_allow : GoodIn wsL_allow wsX4_allow := goodIn_ca (goodIn_ca (goodIn_ca (goodIn_r _ [8, 9, 10, 11, 12, 13, 14, 15, 16, 17, 18, 19, 20, 21, 7, 22, 23, 24, 25, 26, 27, 28, 29, 30, 31, 32, 33, 34, 35, 36, 37, 38, 39, 40, 41, 42, 43, 44, 45, 46, 47, 48, 49, 50, 51, 52, 53, 54, 55, 56, 57, 58, 59, 60, 61, 62, 63, 64, 65, 66, 67, 68, 69, 70, 71, 72, 73, 74, 75, 76, 77, 78, 79, 80, 81, 82, 83, 84, 85, 86, 87, 88, 89, 90, 91, 92, 93, 94, 95, 96, 97, 98, 99, 100, 101, 102, 103, 104, 105, 106, 107, 108, 109, 110, 111, 112, 113, 114, 115, 116, 117, 118, 119, 120, 121, 122, 123, 124, 125, 126, 127] (by decide +kernel) (by decide +kernel)) (goodIn_sub (fun _ h => List.mem_cons_of_mem _ (List.mem_append_left _ (List.mem_append_left _ (List.mem_append_right _ h)))) (by decide +kernel))) (goodIn_sub (fun _ h => List.mem_cons_of_mem _ (List.mem_append_left _ (List.mem_append_right _ h))) (by decide +kernel))) (goodIn_sub (fun _ h => List.mem_cons_of_mem _ (List.mem_append_right _ h)) (by decide +kernel))
set_option maxRecDepth 20000 in
theorem gL_allow_X4_allow : GoodIn wsL_allow (wsV RL 36 RX4 yX4_allow wsX4_allow) := goodIn_app (goodIn_of _ (by decide +kernel)) ggL_allow_X4_allow
theorem dL_allow_0 : decode cL_allow 0 = .ok (.aload 6, 2) := by decide +kernel
theorem dL_allow_2 : decode cL_allow 2 = .ok (.iconst 0, 1) := by decide +kernel
theorem dL_allow_3 : decode cL_allow 3 = .ok (.aload_n 0, 1) := by decide +kernel
theorem dL_allow_4 : decode cL_allow 4 = .ok (.iload_n 1, 1) := by decide +kernel
theorem dL_allow_5 : decode cL_allow 5 = .ok (.iload_n 2, 1) := by decide +kernel
theorem dL_allow_6 : decode cL_allow 6 = .ok (.iload_n 3, 1) := by decide +kernel
theorem dL_allow_7 : decode cL_allow 7 = .ok (.iload 4, 2) := by decide +kernel
theorem dL_allow_9 : decode cL_allow 9 = .ok (.iload 5, 2) := by decide +kernel
theorem dL_allow_11 : decode cL_allow 11 = .ok (.invokevirtual 36, 3) := by decide +kernel
theorem dL_allow_14 : decode cL_allow 14 = .ok (.i2l, 1) := by decide +kernel
theorem dL_allow_15 : decode cL_allow 15 = .ok (.lastore, 1) := by decide +kernel
theorem dL_allow_16 : decode cL_allow 16 = .ok (.goto 15, 3) := by decide +kernel
theorem dL_allow_19 : decode cL_allow 19 = .ok (.astore 7, 2) := by decide +kernel
theorem dL_allow_21 : decode cL_allow 21 = .ok (.iconst 1, 1) := by decide +kernel
theorem dL_allow_22 : decode cL_allow 22 = .ok (.ireturn, 1) := by decide +kernel
theorem dL_allow_23 : decode cL_allow 23 = .ok (.astore 7, 2) := by decide +kernel
theorem dL_allow_25 : decode cL_allow 25 = .ok (.iconst 2, 1) := by decide +kernel
theorem dL_allow_26 : decode cL_allow 26 = .ok (.ireturn, 1) := by decide +kernel
theorem dL_allow_27 : decode cL_allow 27 = .ok (.astore 7, 2) := by decide +kernel
theorem dL_allow_29 : decode cL_allow 29 = .ok (.iconst 3, 1) := by decide +kernel
theorem dL_allow_30 : decode cL_allow 30 = .ok (.ireturn, 1) := by decide +kernel
theorem dL_allow_31 : decode cL_allow 31 = .ok (.iconst 0, 1) := by decide +kernel
theorem dL_allow_32 : decode cL_allow 32 = .ok (.ireturn, 1) := by decide +kernel
