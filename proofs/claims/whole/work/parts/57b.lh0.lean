theorem dL_setMember_0 : decode cL_setMember 0 = .ok (.aload 4, 2) := by decide +kernel
theorem dL_setMember_2 : decode cL_setMember 2 = .ok (.iconst 0, 1) := by decide +kernel
theorem dL_setMember_3 : decode cL_setMember 3 = .ok (.aload_n 0, 1) := by decide +kernel
theorem dL_setMember_4 : decode cL_setMember 4 = .ok (.iload_n 1, 1) := by decide +kernel
theorem dL_setMember_5 : decode cL_setMember 5 = .ok (.iload_n 2, 1) := by decide +kernel
theorem dL_setMember_6 : decode cL_setMember 6 = .ok (.iload_n 3, 1) := by decide +kernel
theorem dL_setMember_7 : decode cL_setMember 7 = .ok (.invokevirtual 7, 3) := by decide +kernel
theorem dL_setMember_10 : decode cL_setMember 10 = .ok (.ifCond .eq 7, 3) := by decide +kernel
theorem dL_setMember_13 : decode cL_setMember 13 = .ok (.lconst 1, 1) := by decide +kernel
theorem dL_setMember_14 : decode cL_setMember 14 = .ok (.goto 4, 3) := by decide +kernel
theorem dL_setMember_17 : decode cL_setMember 17 = .ok (.lconst 0, 1) := by decide +kernel
theorem dL_setMember_18 : decode cL_setMember 18 = .ok (.lastore, 1) := by decide +kernel
theorem dL_setMember_19 : decode cL_setMember 19 = .ok (.goto 7, 3) := by decide +kernel
theorem dL_setMember_22 : decode cL_setMember 22 = .ok (.astore 5, 2) := by decide +kernel
theorem dL_setMember_24 : decode cL_setMember 24 = .ok (.iconst 1, 1) := by decide +kernel
theorem dL_setMember_25 : decode cL_setMember 25 = .ok (.ireturn, 1) := by decide +kernel
theorem dL_setMember_26 : decode cL_setMember 26 = .ok (.iconst 0, 1) := by decide +kernel
theorem dL_setMember_27 : decode cL_setMember 27 = .ok (.ireturn, 1) := by decide +kernel
set_option maxRecDepth 20000 in
theorem ggL_nest_X4_nest : GoodIn wsL_nest wsX4_nest := goodIn_ca (goodIn_ca (goodIn_r _ [7, 8, 9, 10, 11, 12, 6, 13, 14, 15, 16, 17, 18, 19, 20, 21, 22, 23, 24, 25, 26, 27, 28, 29, 30, 31, 32, 33, 34, 35, 36, 37, 38, 39, 40, 41] (by decide +kernel) (by decide +kernel)) (goodIn_sub (fun _ h => List.mem_cons_of_mem _ (List.mem_append_left _ (List.mem_append_right _ h))) (by decide +kernel))) (goodIn_sub (fun _ h => List.mem_cons_of_mem _ (List.mem_append_right _ h)) (by decide +kernel))
set_option maxRecDepth 20000 in
theorem gL_nest_X4_nest : GoodIn wsL_nest (wsV RL 15 RX4 yX4_nest wsX4_nest) := goodIn_app (goodIn_of _ (by decide +kernel)) ggL_nest_X4_nest
theorem dL_nest_0 : decode cL_nest 0 = .ok (.aload_n 3, 1) := by decide +kernel
theorem dL_nest_1 : decode cL_nest 1 = .ok (.iconst 0, 1) := by decide +kernel
theorem dL_nest_2 : decode cL_nest 2 = .ok (.aload_n 0, 1) := by decide +kernel
theorem dL_nest_3 : decode cL_nest 3 = .ok (.iload_n 1, 1) := by decide +kernel
theorem dL_nest_4 : decode cL_nest 4 = .ok (.iload_n 2, 1) := by decide +kernel
theorem dL_nest_5 : decode cL_nest 5 = .ok (.invokevirtual 15, 3) := by decide +kernel
theorem dL_nest_8 : decode cL_nest 8 = .ok (.ifCond .eq 7, 3) := by decide +kernel
theorem dL_nest_11 : decode cL_nest 11 = .ok (.lconst 1, 1) := by decide +kernel
theorem dL_nest_12 : decode cL_nest 12 = .ok (.goto 4, 3) := by decide +kernel
theorem dL_nest_15 : decode cL_nest 15 = .ok (.lconst 0, 1) := by decide +kernel
theorem dL_nest_16 : decode cL_nest 16 = .ok (.lastore, 1) := by decide +kernel
theorem dL_nest_17 : decode cL_nest 17 = .ok (.goto 11, 3) := by decide +kernel
theorem dL_nest_20 : decode cL_nest 20 = .ok (.astore 4, 2) := by decide +kernel
theorem dL_nest_22 : decode cL_nest 22 = .ok (.iconst 1, 1) := by decide +kernel
theorem dL_nest_23 : decode cL_nest 23 = .ok (.ireturn, 1) := by decide +kernel
theorem dL_nest_24 : decode cL_nest 24 = .ok (.astore 4, 2) := by decide +kernel
theorem dL_nest_26 : decode cL_nest 26 = .ok (.iconst 2, 1) := by decide +kernel
theorem dL_nest_27 : decode cL_nest 27 = .ok (.ireturn, 1) := by decide +kernel
theorem dL_nest_28 : decode cL_nest 28 = .ok (.iconst 0, 1) := by decide +kernel
theorem dL_nest_29 : decode cL_nest 29 = .ok (.ireturn, 1) := by decide +kernel
set_option maxRecDepth 20000 in
theorem ggL_members_X4_members : GoodIn wsL_members wsX4_members := goodIn_ca (goodIn_r _ [6, 7, 8, 9, 5, 10, 11, 12, 13, 14, 15, 16, 17, 18, 19, 20, 21, 22, 23, 24] (by decide +kernel) (by decide +kernel)) (goodIn_sub (fun _ h => List.mem_cons_of_mem _ (List.mem_append_right _ h)) (by decide +kernel))
set_option maxRecDepth 20000 in
theorem gL_members_X4_members : GoodIn wsL_members (wsV RL 21 RX4 yX4_members wsX4_members) := goodIn_app (goodIn_of _ (by decide +kernel)) ggL_members_X4_members
theorem dL_members_0 : decode cL_members 0 = .ok (.aload_n 2, 1) := by decide +kernel
theorem dL_members_1 : decode cL_members 1 = .ok (.iconst 0, 1) := by decide +kernel
theorem dL_members_2 : decode cL_members 2 = .ok (.aload_n 0, 1) := by decide +kernel
theorem dL_members_3 : decode cL_members 3 = .ok (.iload_n 1, 1) := by decide +kernel
theorem dL_members_4 : decode cL_members 4 = .ok (.invokevirtual 21, 3) := by decide +kernel
theorem dL_members_7 : decode cL_members 7 = .ok (.i2l, 1) := by decide +kernel
theorem dL_members_8 : decode cL_members 8 = .ok (.lastore, 1) := by decide +kernel
theorem dL_members_9 : decode cL_members 9 = .ok (.goto 6, 3) := by decide +kernel
theorem dL_members_12 : decode cL_members 12 = .ok (.astore_n 3, 1) := by decide +kernel
theorem dL_members_13 : decode cL_members 13 = .ok (.iconst 1, 1) := by decide +kernel
theorem dL_members_14 : decode cL_members 14 = .ok (.ireturn, 1) := by decide +kernel
theorem dL_members_15 : decode cL_members 15 = .ok (.iconst 0, 1) := by decide +kernel
theorem dL_members_16 : decode cL_members 16 = .ok (.ireturn, 1) := by decide +kernel
