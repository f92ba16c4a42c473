theorem dX0_init_0 : decode cX0_init 0 = .ok (.aload_n 0, 1) := by decide +kernel
theorem dX0_init_1 : decode cX0_init 1 = .ok (.invokespecial 3, 3) := by decide +kernel
theorem dX0_init_4 : decode cX0_init 4 = .ok (.aload_n 0, 1) := by decide +kernel
theorem dX0_init_5 : decode cX0_init 5 = .ok (.iload_n 1, 1) := by decide +kernel
theorem dX0_init_6 : decode cX0_init 6 = .ok (.putfield 9, 3) := by decide +kernel
theorem dX0_init_9 : decode cX0_init 9 = .ok (.aload_n 0, 1) := by decide +kernel
theorem dX0_init_10 : decode cX0_init 10 = .ok (.iload_n 2, 1) := by decide +kernel
theorem dX0_init_11 : decode cX0_init 11 = .ok (.putfield 15, 3) := by decide +kernel
theorem dX0_init_14 : decode cX0_init 14 = .ok (.aload_n 0, 1) := by decide +kernel
theorem dX0_init_15 : decode cX0_init 15 = .ok (.iload_n 3, 1) := by decide +kernel
theorem dX0_init_16 : decode cX0_init 16 = .ok (.putfield 19, 3) := by decide +kernel
theorem dX0_init_19 : decode cX0_init 19 = .ok (.aload_n 0, 1) := by decide +kernel
theorem dX0_init_20 : decode cX0_init 20 = .ok (.iload 4, 2) := by decide +kernel
theorem dX0_init_22 : decode cX0_init 22 = .ok (.putfield 22, 3) := by decide +kernel
theorem dX0_init_25 : decode cX0_init 25 = .ok (.return_, 1) := by decide +kernel
theorem dX0_counts_0 : decode cX0_counts 0 = .ok (.aload_n 0, 1) := by decide +kernel
theorem dX0_counts_1 : decode cX0_counts 1 = .ok (.getfield 22, 3) := by decide +kernel
theorem dX0_counts_4 : decode cX0_counts 4 = .ok (.iload_n 1, 1) := by decide +kernel
theorem dX0_counts_5 : decode cX0_counts 5 = .ok (.ifCond .eq 7, 3) := by decide +kernel
theorem dX0_counts_8 : decode cX0_counts 8 = .ok (.iconst 1, 1) := by decide +kernel
theorem dX0_counts_9 : decode cX0_counts 9 = .ok (.goto 4, 3) := by decide +kernel
theorem dX0_counts_12 : decode cX0_counts 12 = .ok (.iconst 0, 1) := by decide +kernel
theorem dX0_counts_13 : decode cX0_counts 13 = .ok (.if_icmp .eq 7, 3) := by decide +kernel
theorem dX0_counts_16 : decode cX0_counts 16 = .ok (.iconst 1, 1) := by decide +kernel
theorem dX0_counts_17 : decode cX0_counts 17 = .ok (.goto 4, 3) := by decide +kernel
theorem dX0_counts_20 : decode cX0_counts 20 = .ok (.iconst 0, 1) := by decide +kernel
theorem dX0_counts_21 : decode cX0_counts 21 = .ok (.ireturn, 1) := by decide +kernel
set_option maxRecDepth 20000 in
theorem ggX1_init_Jx4a65c_init_da8c8 : GoodIn wsX1_init wsJx4a65c_init_da8c8 := goodIn_r _ [17, 18, 19, 20, 21, 22, 23, 24, 25, 26, 27, 28, 29, 2, 3, 30, 31, 32] (by decide +kernel) (by decide +kernel)
set_option maxRecDepth 20000 in
theorem gX1_init_Jx4a65c_init_da8c8 : GoodIn wsX1_init (wsJx4a65c_init_da8c8) := ggX1_init_Jx4a65c_init_da8c8
theorem dX1_init_0 : decode cX1_init 0 = .ok (.aload_n 0, 1) := by decide +kernel
theorem dX1_init_1 : decode cX1_init 1 = .ok (.invokespecial 3, 3) := by decide +kernel
theorem dX1_init_4 : decode cX1_init 4 = .ok (.aload_n 0, 1) := by decide +kernel
theorem dX1_init_5 : decode cX1_init 5 = .ok (.new 9, 3) := by decide +kernel
theorem dX1_init_8 : decode cX1_init 8 = .ok (.dup, 1) := by decide +kernel
theorem dX1_init_9 : decode cX1_init 9 = .ok (.invokespecial 11, 3) := by decide +kernel
theorem dX1_init_12 : decode cX1_init 12 = .ok (.putfield 12, 3) := by decide +kernel
theorem dX1_init_15 : decode cX1_init 15 = .ok (.aload_n 0, 1) := by decide +kernel
theorem dX1_init_16 : decode cX1_init 16 = .ok (.bipush 8, 2) := by decide +kernel
theorem dX1_init_18 : decode cX1_init 18 = .ok (.newarray .int, 2) := by decide +kernel
theorem dX1_init_20 : decode cX1_init 20 = .ok (.putfield 18, 3) := by decide +kernel
theorem dX1_init_23 : decode cX1_init 23 = .ok (.aload_n 0, 1) := by decide +kernel
theorem dX1_init_24 : decode cX1_init 24 = .ok (.iconst 1, 1) := by decide +kernel
theorem dX1_init_25 : decode cX1_init 25 = .ok (.putfield 22, 3) := by decide +kernel
theorem dX1_init_28 : decode cX1_init 28 = .ok (.aload_n 0, 1) := by decide +kernel
theorem dX1_init_29 : decode cX1_init 29 = .ok (.iconst 0, 1) := by decide +kernel
theorem dX1_init_30 : decode cX1_init 30 = .ok (.putfield 26, 3) := by decide +kernel
theorem dX1_init_33 : decode cX1_init 33 = .ok (.aload_n 0, 1) := by decide +kernel
theorem dX1_init_34 : decode cX1_init 34 = .ok (.iconst 0, 1) := by decide +kernel
theorem dX1_init_35 : decode cX1_init 35 = .ok (.putfield 29, 3) := by decide +kernel
theorem dX1_init_38 : decode cX1_init 38 = .ok (.aload_n 0, 1) := by decide +kernel
theorem dX1_init_39 : decode cX1_init 39 = .ok (.aload_n 1, 1) := by decide +kernel
theorem dX1_init_40 : decode cX1_init 40 = .ok (.putfield 32, 3) := by decide +kernel
theorem dX1_init_43 : decode cX1_init 43 = .ok (.aload_n 0, 1) := by decide +kernel
theorem dX1_init_44 : decode cX1_init 44 = .ok (.iload_n 2, 1) := by decide +kernel
theorem dX1_init_45 : decode cX1_init 45 = .ok (.putfield 36, 3) := by decide +kernel
theorem dX1_init_48 : decode cX1_init 48 = .ok (.return_, 1) := by decide +kernel
theorem dX1_inheritsFrom_0 : decode cX1_inheritsFrom 0 = .ok (.aload_n 0, 1) := by decide +kernel
theorem dX1_inheritsFrom_1 : decode cX1_inheritsFrom 1 = .ok (.getfield 22, 3) := by decide +kernel
theorem dX1_inheritsFrom_4 : decode cX1_inheritsFrom 4 = .ok (.ifCond .eq 10, 3) := by decide +kernel
theorem dX1_inheritsFrom_7 : decode cX1_inheritsFrom 7 = .ok (.aload_n 0, 1) := by decide +kernel
theorem dX1_inheritsFrom_8 : decode cX1_inheritsFrom 8 = .ok (.getfield 32, 3) := by decide +kernel
theorem dX1_inheritsFrom_11 : decode cX1_inheritsFrom 11 = .ok (.goto 4, 3) := by decide +kernel
theorem dX1_inheritsFrom_14 : decode cX1_inheritsFrom 14 = .ok (.aconst_null, 1) := by decide +kernel
theorem dX1_inheritsFrom_15 : decode cX1_inheritsFrom 15 = .ok (.areturn, 1) := by decide +kernel
set_option maxRecDepth 20000 in
theorem ggX1_levelsInherited_X1_inheritsFrom : GoodIn wsX1_levelsInherited wsX1_inheritsFrom := goodIn_r _ [5, 6, 7, 8, 9, 10, 11, 12, 13, 14] (by decide +kernel) (by decide +kernel)
set_option maxRecDepth 20000 in
theorem gX1_levelsInherited_X1_inheritsFrom : GoodIn wsX1_levelsInherited (wsV RX1 40 RX1 yX1_inheritsFrom wsX1_inheritsFrom) := goodIn_app (goodIn_of _ (by decide +kernel)) ggX1_levelsInherited_X1_inheritsFrom
theorem dX1_levelsInherited_0 : decode cX1_levelsInherited 0 = .ok (.iconst 0, 1) := by decide +kernel
theorem dX1_levelsInherited_1 : decode cX1_levelsInherited 1 = .ok (.istore_n 1, 1) := by decide +kernel
theorem dX1_levelsInherited_2 : decode cX1_levelsInherited 2 = .ok (.aload_n 0, 1) := by decide +kernel
theorem dX1_levelsInherited_3 : decode cX1_levelsInherited 3 = .ok (.invokevirtual 40, 3) := by decide +kernel
theorem dX1_levelsInherited_6 : decode cX1_levelsInherited 6 = .ok (.astore_n 2, 1) := by decide +kernel
theorem dX1_levelsInherited_7 : decode cX1_levelsInherited 7 = .ok (.aload_n 2, 1) := by decide +kernel
theorem dX1_levelsInherited_8 : decode cX1_levelsInherited 8 = .ok (.ifnull 14, 3) := by decide +kernel
theorem dX1_levelsInherited_11 : decode cX1_levelsInherited 11 = .ok (.iinc 1 1, 3) := by decide +kernel
theorem dX1_levelsInherited_14 : decode cX1_levelsInherited 14 = .ok (.aload_n 2, 1) := by decide +kernel
theorem dX1_levelsInherited_15 : decode cX1_levelsInherited 15 = .ok (.invokevirtual 40, 3) := by decide +kernel
theorem dX1_levelsInherited_18 : decode cX1_levelsInherited 18 = .ok (.astore_n 2, 1) := by decide +kernel
theorem dX1_levelsInherited_19 : decode cX1_levelsInherited 19 = .ok (.goto (-12), 3) := by decide +kernel
theorem dX1_levelsInherited_22 : decode cX1_levelsInherited 22 = .ok (.iload_n 1, 1) := by decide +kernel
theorem dX1_levelsInherited_23 : decode cX1_levelsInherited 23 = .ok (.ireturn, 1) := by decide +kernel
theorem dX1_above_0 : decode cX1_above 0 = .ok (.aload_n 0, 1) := by decide +kernel
theorem dX1_above_1 : decode cX1_above 1 = .ok (.astore_n 2, 1) := by decide +kernel
theorem dX1_above_2 : decode cX1_above 2 = .ok (.iconst 0, 1) := by decide +kernel
theorem dX1_above_3 : decode cX1_above 3 = .ok (.istore_n 3, 1) := by decide +kernel
theorem dX1_above_4 : decode cX1_above 4 = .ok (.iload_n 3, 1) := by decide +kernel
theorem dX1_above_5 : decode cX1_above 5 = .ok (.iload_n 1, 1) := by decide +kernel
theorem dX1_above_6 : decode cX1_above 6 = .ok (.if_icmp .ge 21, 3) := by decide +kernel
theorem dX1_above_9 : decode cX1_above 9 = .ok (.aload_n 2, 1) := by decide +kernel
theorem dX1_above_10 : decode cX1_above 10 = .ok (.getfield 32, 3) := by decide +kernel
theorem dX1_above_13 : decode cX1_above 13 = .ok (.ifnull 14, 3) := by decide +kernel
theorem dX1_above_16 : decode cX1_above 16 = .ok (.aload_n 2, 1) := by decide +kernel
theorem dX1_above_17 : decode cX1_above 17 = .ok (.getfield 32, 3) := by decide +kernel
theorem dX1_above_20 : decode cX1_above 20 = .ok (.astore_n 2, 1) := by decide +kernel
theorem dX1_above_21 : decode cX1_above 21 = .ok (.iinc 3 1, 3) := by decide +kernel
theorem dX1_above_24 : decode cX1_above 24 = .ok (.goto (-20), 3) := by decide +kernel
theorem dX1_above_27 : decode cX1_above 27 = .ok (.aload_n 2, 1) := by decide +kernel
theorem dX1_above_28 : decode cX1_above 28 = .ok (.areturn, 1) := by decide +kernel
theorem dX1_keeps_0 : decode cX1_keeps 0 = .ok (.aload_n 0, 1) := by decide +kernel
theorem dX1_keeps_1 : decode cX1_keeps 1 = .ok (.getfield 26, 3) := by decide +kernel
theorem dX1_keeps_4 : decode cX1_keeps 4 = .ok (.ifCond .ne 5, 3) := by decide +kernel
theorem dX1_keeps_7 : decode cX1_keeps 7 = .ok (.iconst 0, 1) := by decide +kernel
theorem dX1_keeps_8 : decode cX1_keeps 8 = .ok (.ireturn, 1) := by decide +kernel
theorem dX1_keeps_9 : decode cX1_keeps 9 = .ok (.iconst 0, 1) := by decide +kernel
theorem dX1_keeps_10 : decode cX1_keeps 10 = .ok (.istore_n 2, 1) := by decide +kernel
theorem dX1_keeps_11 : decode cX1_keeps 11 = .ok (.iload_n 2, 1) := by decide +kernel
theorem dX1_keeps_12 : decode cX1_keeps 12 = .ok (.bipush 8, 2) := by decide +kernel
theorem dX1_keeps_14 : decode cX1_keeps 14 = .ok (.if_icmp .ge 23, 3) := by decide +kernel
theorem dX1_keeps_17 : decode cX1_keeps 17 = .ok (.aload_n 0, 1) := by decide +kernel
theorem dX1_keeps_18 : decode cX1_keeps 18 = .ok (.getfield 18, 3) := by decide +kernel
theorem dX1_keeps_21 : decode cX1_keeps 21 = .ok (.iload_n 2, 1) := by decide +kernel
theorem dX1_keeps_22 : decode cX1_keeps 22 = .ok (.iaload, 1) := by decide +kernel
theorem dX1_keeps_23 : decode cX1_keeps 23 = .ok (.aload_n 1, 1) := by decide +kernel
theorem dX1_keeps_24 : decode cX1_keeps 24 = .ok (.iload_n 2, 1) := by decide +kernel
theorem dX1_keeps_25 : decode cX1_keeps 25 = .ok (.iaload, 1) := by decide +kernel
theorem dX1_keeps_26 : decode cX1_keeps 26 = .ok (.if_icmp .eq 5, 3) := by decide +kernel
theorem dX1_keeps_29 : decode cX1_keeps 29 = .ok (.iconst 0, 1) := by decide +kernel
theorem dX1_keeps_30 : decode cX1_keeps 30 = .ok (.ireturn, 1) := by decide +kernel
theorem dX1_keeps_31 : decode cX1_keeps 31 = .ok (.iinc 2 1, 3) := by decide +kernel
theorem dX1_keeps_34 : decode cX1_keeps 34 = .ok (.goto (-23), 3) := by decide +kernel
theorem dX1_keeps_37 : decode cX1_keeps 37 = .ok (.iconst 1, 1) := by decide +kernel
theorem dX1_keeps_38 : decode cX1_keeps 38 = .ok (.ireturn, 1) := by decide +kernel
set_option maxRecDepth 20000 in
theorem ggX1_keep_X1_keeps : GoodIn wsX1_keep wsX1_keeps := goodIn_r _ [11, 6, 1, 12, 13, 14, 15, 16, 17, 18] (by decide +kernel) (by decide +kernel)
set_option maxRecDepth 20000 in
theorem gX1_keep_X1_keeps : GoodIn wsX1_keep (wsV RX1 44 RX1 yX1_keeps wsX1_keeps) := goodIn_app (goodIn_of _ (by decide +kernel)) ggX1_keep_X1_keeps
theorem dX1_keep_0 : decode cX1_keep 0 = .ok (.aload_n 0, 1) := by decide +kernel
theorem dX1_keep_1 : decode cX1_keep 1 = .ok (.aload_n 1, 1) := by decide +kernel
theorem dX1_keep_2 : decode cX1_keep 2 = .ok (.invokevirtual 44, 3) := by decide +kernel
theorem dX1_keep_5 : decode cX1_keep 5 = .ok (.ifCond .ne 7, 3) := by decide +kernel
theorem dX1_keep_8 : decode cX1_keep 8 = .ok (.iconst 1, 1) := by decide +kernel
theorem dX1_keep_9 : decode cX1_keep 9 = .ok (.goto 4, 3) := by decide +kernel
theorem dX1_keep_12 : decode cX1_keep 12 = .ok (.iconst 0, 1) := by decide +kernel
theorem dX1_keep_13 : decode cX1_keep 13 = .ok (.istore_n 2, 1) := by decide +kernel
theorem dX1_keep_14 : decode cX1_keep 14 = .ok (.aload_n 1, 1) := by decide +kernel
theorem dX1_keep_15 : decode cX1_keep 15 = .ok (.iconst 0, 1) := by decide +kernel
theorem dX1_keep_16 : decode cX1_keep 16 = .ok (.aload_n 0, 1) := by decide +kernel
theorem dX1_keep_17 : decode cX1_keep 17 = .ok (.getfield 18, 3) := by decide +kernel
theorem dX1_keep_20 : decode cX1_keep 20 = .ok (.iconst 0, 1) := by decide +kernel
theorem dX1_keep_21 : decode cX1_keep 21 = .ok (.bipush 8, 2) := by decide +kernel
theorem dX1_keep_23 : decode cX1_keep 23 = .ok (.invokestatic 48, 3) := by decide +kernel
theorem dX1_keep_26 : decode cX1_keep 26 = .ok (.aload_n 0, 1) := by decide +kernel
theorem dX1_keep_27 : decode cX1_keep 27 = .ok (.iconst 1, 1) := by decide +kernel
theorem dX1_keep_28 : decode cX1_keep 28 = .ok (.putfield 26, 3) := by decide +kernel
theorem dX1_keep_31 : decode cX1_keep 31 = .ok (.iload_n 2, 1) := by decide +kernel
theorem dX1_keep_32 : decode cX1_keep 32 = .ok (.ireturn, 1) := by decide +kernel
theorem dX2_init_0 : decode cX2_init 0 = .ok (.aload_n 0, 1) := by decide +kernel
theorem dX2_init_1 : decode cX2_init 1 = .ok (.invokespecial 3, 3) := by decide +kernel
theorem dX2_init_4 : decode cX2_init 4 = .ok (.aload_n 0, 1) := by decide +kernel
theorem dX2_init_5 : decode cX2_init 5 = .ok (.bipush 6, 2) := by decide +kernel
theorem dX2_init_7 : decode cX2_init 7 = .ok (.newarray .int, 2) := by decide +kernel
theorem dX2_init_9 : decode cX2_init 9 = .ok (.putfield 9, 3) := by decide +kernel
theorem dX2_init_12 : decode cX2_init 12 = .ok (.aload_n 0, 1) := by decide +kernel
theorem dX2_init_13 : decode cX2_init 13 = .ok (.bipush 6, 2) := by decide +kernel
theorem dX2_init_15 : decode cX2_init 15 = .ok (.newarray .int, 2) := by decide +kernel
theorem dX2_init_17 : decode cX2_init 17 = .ok (.putfield 15, 3) := by decide +kernel
theorem dX2_init_20 : decode cX2_init 20 = .ok (.aload_n 0, 1) := by decide +kernel
theorem dX2_init_21 : decode cX2_init 21 = .ok (.bipush 6, 2) := by decide +kernel
theorem dX2_init_23 : decode cX2_init 23 = .ok (.newarray .int, 2) := by decide +kernel
theorem dX2_init_25 : decode cX2_init 25 = .ok (.putfield 18, 3) := by decide +kernel
theorem dX2_init_28 : decode cX2_init 28 = .ok (.return_, 1) := by decide +kernel
set_option maxRecDepth 20000 in
theorem ggX2_put_X4_contains : GoodIn wsX2_put wsX4_contains := goodIn_r _ [4] (by decide +kernel) (by decide +kernel)
set_option maxRecDepth 20000 in
theorem gX2_put_X4_contains_n21 : GoodIn wsX2_put (wsX4_contains) := ggX2_put_X4_contains
set_option maxRecDepth 20000 in
theorem ggX2_put_X2_findEveryone : GoodIn wsX2_put wsX2_findEveryone := goodIn_r _ [9, 1, 10, 11, 12, 13, 8, 14, 15, 2, 3, 4, 16, 17, 18] (by decide +kernel) (by decide +kernel)
set_option maxRecDepth 20000 in
theorem gX2_put_X2_findEveryone : GoodIn wsX2_put (wsV RX2 25 RX2 yX2_findEveryone wsX2_findEveryone) := goodIn_app (goodIn_of _ (by decide +kernel)) ggX2_put_X2_findEveryone
theorem dX2_put_0 : decode cX2_put 0 = .ok (.aload_n 0, 1) := by decide +kernel
theorem dX2_put_1 : decode cX2_put 1 = .ok (.getfield 9, 3) := by decide +kernel
theorem dX2_put_4 : decode cX2_put 4 = .ok (.iload_n 1, 1) := by decide +kernel
theorem dX2_put_5 : decode cX2_put 5 = .ok (.iaload, 1) := by decide +kernel
theorem dX2_put_6 : decode cX2_put 6 = .ok (.iload_n 2, 1) := by decide +kernel
theorem dX2_put_7 : decode cX2_put 7 = .ok (.invokestatic 21, 3) := by decide +kernel
theorem dX2_put_10 : decode cX2_put 10 = .ok (.istore 4, 2) := by decide +kernel
theorem dX2_put_12 : decode cX2_put 12 = .ok (.iload 4, 2) := by decide +kernel
theorem dX2_put_14 : decode cX2_put 14 = .ok (.iload_n 3, 1) := by decide +kernel
theorem dX2_put_15 : decode cX2_put 15 = .ok (.if_icmp .eq 19, 3) := by decide +kernel
theorem dX2_put_18 : decode cX2_put 18 = .ok (.aload_n 0, 1) := by decide +kernel
theorem dX2_put_19 : decode cX2_put 19 = .ok (.getfield 9, 3) := by decide +kernel
theorem dX2_put_22 : decode cX2_put 22 = .ok (.iload_n 1, 1) := by decide +kernel
theorem dX2_put_23 : decode cX2_put 23 = .ok (.dup2, 1) := by decide +kernel
theorem dX2_put_24 : decode cX2_put 24 = .ok (.iaload, 1) := by decide +kernel
theorem dX2_put_25 : decode cX2_put 25 = .ok (.iconst 1, 1) := by decide +kernel
theorem dX2_put_26 : decode cX2_put 26 = .ok (.iload_n 2, 1) := by decide +kernel
theorem dX2_put_27 : decode cX2_put 27 = .ok (.ishl, 1) := by decide +kernel
theorem dX2_put_28 : decode cX2_put 28 = .ok (.ixor, 1) := by decide +kernel
theorem dX2_put_29 : decode cX2_put 29 = .ok (.iastore, 1) := by decide +kernel
theorem dX2_put_30 : decode cX2_put 30 = .ok (.aload_n 0, 1) := by decide +kernel
theorem dX2_put_31 : decode cX2_put 31 = .ok (.invokevirtual 25, 3) := by decide +kernel
theorem dX2_put_34 : decode cX2_put 34 = .ok (.iload 4, 2) := by decide +kernel
theorem dX2_put_36 : decode cX2_put 36 = .ok (.ireturn, 1) := by decide +kernel
set_option maxRecDepth 20000 in
theorem ggX2_toggleInner_X2_findEveryone : GoodIn wsX2_toggleInner wsX2_findEveryone := goodIn_r _ [6, 7, 8, 9, 10, 11, 5, 12, 1, 13, 14, 15, 16, 17, 18] (by decide +kernel) (by decide +kernel)
set_option maxRecDepth 20000 in
theorem gX2_toggleInner_X2_findEveryone : GoodIn wsX2_toggleInner (wsV RX2 25 RX2 yX2_findEveryone wsX2_findEveryone) := goodIn_app (goodIn_of _ (by decide +kernel)) ggX2_toggleInner_X2_findEveryone
set_option maxRecDepth 20000 in
theorem ggX2_toggleInner_X4_contains : GoodIn wsX2_toggleInner wsX4_contains := goodIn_r _ [15] (by decide +kernel) (by decide +kernel)
set_option maxRecDepth 20000 in
theorem gX2_toggleInner_X4_contains_n21 : GoodIn wsX2_toggleInner (wsX4_contains) := ggX2_toggleInner_X4_contains
theorem dX2_toggleInner_0 : decode cX2_toggleInner 0 = .ok (.aload_n 0, 1) := by decide +kernel
theorem dX2_toggleInner_1 : decode cX2_toggleInner 1 = .ok (.getfield 15, 3) := by decide +kernel
theorem dX2_toggleInner_4 : decode cX2_toggleInner 4 = .ok (.iload_n 1, 1) := by decide +kernel
theorem dX2_toggleInner_5 : decode cX2_toggleInner 5 = .ok (.dup2, 1) := by decide +kernel
theorem dX2_toggleInner_6 : decode cX2_toggleInner 6 = .ok (.iaload, 1) := by decide +kernel
theorem dX2_toggleInner_7 : decode cX2_toggleInner 7 = .ok (.iconst 1, 1) := by decide +kernel
theorem dX2_toggleInner_8 : decode cX2_toggleInner 8 = .ok (.iload_n 2, 1) := by decide +kernel
theorem dX2_toggleInner_9 : decode cX2_toggleInner 9 = .ok (.ishl, 1) := by decide +kernel
theorem dX2_toggleInner_10 : decode cX2_toggleInner 10 = .ok (.ixor, 1) := by decide +kernel
theorem dX2_toggleInner_11 : decode cX2_toggleInner 11 = .ok (.iastore, 1) := by decide +kernel
theorem dX2_toggleInner_12 : decode cX2_toggleInner 12 = .ok (.aload_n 0, 1) := by decide +kernel
theorem dX2_toggleInner_13 : decode cX2_toggleInner 13 = .ok (.invokevirtual 25, 3) := by decide +kernel
theorem dX2_toggleInner_16 : decode cX2_toggleInner 16 = .ok (.aload_n 0, 1) := by decide +kernel
theorem dX2_toggleInner_17 : decode cX2_toggleInner 17 = .ok (.getfield 15, 3) := by decide +kernel
theorem dX2_toggleInner_20 : decode cX2_toggleInner 20 = .ok (.iload_n 1, 1) := by decide +kernel
theorem dX2_toggleInner_21 : decode cX2_toggleInner 21 = .ok (.iaload, 1) := by decide +kernel
theorem dX2_toggleInner_22 : decode cX2_toggleInner 22 = .ok (.iload_n 2, 1) := by decide +kernel
theorem dX2_toggleInner_23 : decode cX2_toggleInner 23 = .ok (.invokestatic 21, 3) := by decide +kernel
theorem dX2_toggleInner_26 : decode cX2_toggleInner 26 = .ok (.ireturn, 1) := by decide +kernel
theorem dX2_everyoneIn_0 : decode cX2_everyoneIn 0 = .ok (.aload_n 0, 1) := by decide +kernel
theorem dX2_everyoneIn_1 : decode cX2_everyoneIn 1 = .ok (.getfield 18, 3) := by decide +kernel
theorem dX2_everyoneIn_4 : decode cX2_everyoneIn 4 = .ok (.iload_n 1, 1) := by decide +kernel
theorem dX2_everyoneIn_5 : decode cX2_everyoneIn 5 = .ok (.iaload, 1) := by decide +kernel
theorem dX2_everyoneIn_6 : decode cX2_everyoneIn 6 = .ok (.ireturn, 1) := by decide +kernel
set_option maxRecDepth 20000 in
theorem ggX2_reachedFrom_X4_contains : GoodIn wsX2_reachedFrom wsX4_contains := goodIn_r _ [4] (by decide +kernel) (by decide +kernel)
set_option maxRecDepth 20000 in
theorem gX2_reachedFrom_X4_contains_n21 : GoodIn wsX2_reachedFrom (wsX4_contains) := ggX2_reachedFrom_X4_contains
theorem dX2_reachedFrom_0 : decode cX2_reachedFrom 0 = .ok (.iconst 1, 1) := by decide +kernel
theorem dX2_reachedFrom_1 : decode cX2_reachedFrom 1 = .ok (.iload_n 1, 1) := by decide +kernel
theorem dX2_reachedFrom_2 : decode cX2_reachedFrom 2 = .ok (.ishl, 1) := by decide +kernel
theorem dX2_reachedFrom_3 : decode cX2_reachedFrom 3 = .ok (.istore_n 2, 1) := by decide +kernel
theorem dX2_reachedFrom_4 : decode cX2_reachedFrom 4 = .ok (.iconst 1, 1) := by decide +kernel
theorem dX2_reachedFrom_5 : decode cX2_reachedFrom 5 = .ok (.istore_n 3, 1) := by decide +kernel
theorem dX2_reachedFrom_6 : decode cX2_reachedFrom 6 = .ok (.iload_n 3, 1) := by decide +kernel
theorem dX2_reachedFrom_7 : decode cX2_reachedFrom 7 = .ok (.bipush 6, 2) := by decide +kernel
theorem dX2_reachedFrom_9 : decode cX2_reachedFrom 9 = .ok (.if_icmp .ge 44, 3) := by decide +kernel
theorem dX2_reachedFrom_12 : decode cX2_reachedFrom 12 = .ok (.iconst 0, 1) := by decide +kernel
theorem dX2_reachedFrom_13 : decode cX2_reachedFrom 13 = .ok (.istore 4, 2) := by decide +kernel
theorem dX2_reachedFrom_15 : decode cX2_reachedFrom 15 = .ok (.iload 4, 2) := by decide +kernel
theorem dX2_reachedFrom_17 : decode cX2_reachedFrom 17 = .ok (.bipush 6, 2) := by decide +kernel
theorem dX2_reachedFrom_19 : decode cX2_reachedFrom 19 = .ok (.if_icmp .ge 28, 3) := by decide +kernel
theorem dX2_reachedFrom_22 : decode cX2_reachedFrom 22 = .ok (.iload_n 2, 1) := by decide +kernel
theorem dX2_reachedFrom_23 : decode cX2_reachedFrom 23 = .ok (.iload 4, 2) := by decide +kernel
theorem dX2_reachedFrom_25 : decode cX2_reachedFrom 25 = .ok (.invokestatic 21, 3) := by decide +kernel
theorem dX2_reachedFrom_28 : decode cX2_reachedFrom 28 = .ok (.ifCond .eq 13, 3) := by decide +kernel
theorem dX2_reachedFrom_31 : decode cX2_reachedFrom 31 = .ok (.iload_n 2, 1) := by decide +kernel
theorem dX2_reachedFrom_32 : decode cX2_reachedFrom 32 = .ok (.aload_n 0, 1) := by decide +kernel
theorem dX2_reachedFrom_33 : decode cX2_reachedFrom 33 = .ok (.getfield 15, 3) := by decide +kernel
theorem dX2_reachedFrom_36 : decode cX2_reachedFrom 36 = .ok (.iload 4, 2) := by decide +kernel
theorem dX2_reachedFrom_38 : decode cX2_reachedFrom 38 = .ok (.iaload, 1) := by decide +kernel
theorem dX2_reachedFrom_39 : decode cX2_reachedFrom 39 = .ok (.ior, 1) := by decide +kernel
theorem dX2_reachedFrom_40 : decode cX2_reachedFrom 40 = .ok (.istore_n 2, 1) := by decide +kernel
theorem dX2_reachedFrom_41 : decode cX2_reachedFrom 41 = .ok (.iinc 4 1, 3) := by decide +kernel
theorem dX2_reachedFrom_44 : decode cX2_reachedFrom 44 = .ok (.goto (-29), 3) := by decide +kernel
theorem dX2_reachedFrom_47 : decode cX2_reachedFrom 47 = .ok (.iinc 3 1, 3) := by decide +kernel
theorem dX2_reachedFrom_50 : decode cX2_reachedFrom 50 = .ok (.goto (-44), 3) := by decide +kernel
theorem dX2_reachedFrom_53 : decode cX2_reachedFrom 53 = .ok (.iload_n 2, 1) := by decide +kernel
theorem dX2_reachedFrom_54 : decode cX2_reachedFrom 54 = .ok (.ireturn, 1) := by decide +kernel
set_option maxRecDepth 20000 in
theorem ggX2_findEveryone_X2_reachedFrom : GoodIn wsX2_findEveryone wsX2_reachedFrom := goodIn_r _ [7, 8, 9, 10, 11, 12, 13, 14] (by decide +kernel) (by decide +kernel)
set_option maxRecDepth 20000 in
theorem gX2_findEveryone_X2_reachedFrom : GoodIn wsX2_findEveryone (wsV RX2 28 RX2 yX2_reachedFrom wsX2_reachedFrom) := goodIn_app (goodIn_of _ (by decide +kernel)) ggX2_findEveryone_X2_reachedFrom
set_option maxRecDepth 20000 in
theorem ggX2_findEveryone_X4_contains : GoodIn wsX2_findEveryone wsX4_contains := goodIn_r _ [11] (by decide +kernel) (by decide +kernel)
set_option maxRecDepth 20000 in
theorem gX2_findEveryone_X4_contains_n21 : GoodIn wsX2_findEveryone (wsX4_contains) := ggX2_findEveryone_X4_contains
theorem dX2_findEveryone_0 : decode cX2_findEveryone 0 = .ok (.iconst 0, 1) := by decide +kernel
theorem dX2_findEveryone_1 : decode cX2_findEveryone 1 = .ok (.istore_n 1, 1) := by decide +kernel
theorem dX2_findEveryone_2 : decode cX2_findEveryone 2 = .ok (.iload_n 1, 1) := by decide +kernel
theorem dX2_findEveryone_3 : decode cX2_findEveryone 3 = .ok (.bipush 6, 2) := by decide +kernel
theorem dX2_findEveryone_5 : decode cX2_findEveryone 5 = .ok (.if_icmp .ge 59, 3) := by decide +kernel
theorem dX2_findEveryone_8 : decode cX2_findEveryone 8 = .ok (.aload_n 0, 1) := by decide +kernel
theorem dX2_findEveryone_9 : decode cX2_findEveryone 9 = .ok (.iload_n 1, 1) := by decide +kernel
theorem dX2_findEveryone_10 : decode cX2_findEveryone 10 = .ok (.invokevirtual 28, 3) := by decide +kernel
theorem dX2_findEveryone_13 : decode cX2_findEveryone 13 = .ok (.istore_n 2, 1) := by decide +kernel
theorem dX2_findEveryone_14 : decode cX2_findEveryone 14 = .ok (.iconst 0, 1) := by decide +kernel
theorem dX2_findEveryone_15 : decode cX2_findEveryone 15 = .ok (.istore_n 3, 1) := by decide +kernel
theorem dX2_findEveryone_16 : decode cX2_findEveryone 16 = .ok (.iconst 0, 1) := by decide +kernel
theorem dX2_findEveryone_17 : decode cX2_findEveryone 17 = .ok (.istore 4, 2) := by decide +kernel
theorem dX2_findEveryone_19 : decode cX2_findEveryone 19 = .ok (.iload 4, 2) := by decide +kernel
theorem dX2_findEveryone_21 : decode cX2_findEveryone 21 = .ok (.bipush 6, 2) := by decide +kernel
theorem dX2_findEveryone_23 : decode cX2_findEveryone 23 = .ok (.if_icmp .ge 28, 3) := by decide +kernel
theorem dX2_findEveryone_26 : decode cX2_findEveryone 26 = .ok (.iload_n 2, 1) := by decide +kernel
theorem dX2_findEveryone_27 : decode cX2_findEveryone 27 = .ok (.iload 4, 2) := by decide +kernel
theorem dX2_findEveryone_29 : decode cX2_findEveryone 29 = .ok (.invokestatic 21, 3) := by decide +kernel
theorem dX2_findEveryone_32 : decode cX2_findEveryone 32 = .ok (.ifCond .eq 13, 3) := by decide +kernel
theorem dX2_findEveryone_35 : decode cX2_findEveryone 35 = .ok (.iload_n 3, 1) := by decide +kernel
theorem dX2_findEveryone_36 : decode cX2_findEveryone 36 = .ok (.aload_n 0, 1) := by decide +kernel
theorem dX2_findEveryone_37 : decode cX2_findEveryone 37 = .ok (.getfield 9, 3) := by decide +kernel
theorem dX2_findEveryone_40 : decode cX2_findEveryone 40 = .ok (.iload 4, 2) := by decide +kernel
theorem dX2_findEveryone_42 : decode cX2_findEveryone 42 = .ok (.iaload, 1) := by decide +kernel
theorem dX2_findEveryone_43 : decode cX2_findEveryone 43 = .ok (.ior, 1) := by decide +kernel
theorem dX2_findEveryone_44 : decode cX2_findEveryone 44 = .ok (.istore_n 3, 1) := by decide +kernel
theorem dX2_findEveryone_45 : decode cX2_findEveryone 45 = .ok (.iinc 4 1, 3) := by decide +kernel
theorem dX2_findEveryone_48 : decode cX2_findEveryone 48 = .ok (.goto (-29), 3) := by decide +kernel
theorem dX2_findEveryone_51 : decode cX2_findEveryone 51 = .ok (.aload_n 0, 1) := by decide +kernel
theorem dX2_findEveryone_52 : decode cX2_findEveryone 52 = .ok (.getfield 18, 3) := by decide +kernel
theorem dX2_findEveryone_55 : decode cX2_findEveryone 55 = .ok (.iload_n 1, 1) := by decide +kernel
theorem dX2_findEveryone_56 : decode cX2_findEveryone 56 = .ok (.iload_n 3, 1) := by decide +kernel
theorem dX2_findEveryone_57 : decode cX2_findEveryone 57 = .ok (.iastore, 1) := by decide +kernel
theorem dX2_findEveryone_58 : decode cX2_findEveryone 58 = .ok (.iinc 1 1, 3) := by decide +kernel
theorem dX2_findEveryone_61 : decode cX2_findEveryone 61 = .ok (.goto (-59), 3) := by decide +kernel
theorem dX2_findEveryone_64 : decode cX2_findEveryone 64 = .ok (.return_, 1) := by decide +kernel
theorem dX3_init_0 : decode cX3_init 0 = .ok (.aload_n 0, 1) := by decide +kernel
theorem dX3_init_1 : decode cX3_init 1 = .ok (.invokespecial 3, 3) := by decide +kernel
theorem dX3_init_4 : decode cX3_init 4 = .ok (.aload_n 0, 1) := by decide +kernel
theorem dX3_init_5 : decode cX3_init 5 = .ok (.bipush 8, 2) := by decide +kernel
theorem dX3_init_7 : decode cX3_init 7 = .ok (.newarray .int, 2) := by decide +kernel
theorem dX3_init_9 : decode cX3_init 9 = .ok (.putfield 9, 3) := by decide +kernel
theorem dX3_init_12 : decode cX3_init 12 = .ok (.aload_n 0, 1) := by decide +kernel
theorem dX3_init_13 : decode cX3_init 13 = .ok (.bipush 8, 2) := by decide +kernel
theorem dX3_init_15 : decode cX3_init 15 = .ok (.newarray .int, 2) := by decide +kernel
theorem dX3_init_17 : decode cX3_init 17 = .ok (.putfield 15, 3) := by decide +kernel
theorem dX3_init_20 : decode cX3_init 20 = .ok (.aload_n 0, 1) := by decide +kernel
theorem dX3_init_21 : decode cX3_init 21 = .ok (.iconst (-1), 1) := by decide +kernel
theorem dX3_init_22 : decode cX3_init 22 = .ok (.putfield 18, 3) := by decide +kernel
theorem dX3_init_25 : decode cX3_init 25 = .ok (.aload_n 0, 1) := by decide +kernel
theorem dX3_init_26 : decode cX3_init 26 = .ok (.iconst 0, 1) := by decide +kernel
theorem dX3_init_27 : decode cX3_init 27 = .ok (.putfield 22, 3) := by decide +kernel
theorem dX3_init_30 : decode cX3_init 30 = .ok (.aload_n 0, 1) := by decide +kernel
theorem dX3_init_31 : decode cX3_init 31 = .ok (.iconst 0, 1) := by decide +kernel
theorem dX3_init_32 : decode cX3_init 32 = .ok (.putfield 25, 3) := by decide +kernel
theorem dX3_init_35 : decode cX3_init 35 = .ok (.aload_n 0, 1) := by decide +kernel
theorem dX3_init_36 : decode cX3_init 36 = .ok (.iconst 0, 1) := by decide +kernel
theorem dX3_init_37 : decode cX3_init 37 = .ok (.putfield 28, 3) := by decide +kernel
theorem dX3_init_40 : decode cX3_init 40 = .ok (.aload_n 0, 1) := by decide +kernel
theorem dX3_init_41 : decode cX3_init 41 = .ok (.iconst 0, 1) := by decide +kernel
theorem dX3_init_42 : decode cX3_init 42 = .ok (.putfield 31, 3) := by decide +kernel
theorem dX3_init_45 : decode cX3_init 45 = .ok (.return_, 1) := by decide +kernel
set_option maxRecDepth 20000 in
theorem ggX3_make_X3_findBits : GoodIn wsX3_make wsX3_findBits := goodIn_r _ [8, 2, 9, 10, 3, 11, 12, 13, 14, 15, 7, 16, 17, 18, 19, 20, 21, 22, 23, 24, 25, 26, 27, 28, 29, 30, 35, 36, 37, 38, 39, 40, 41] (by decide +kernel) (by decide +kernel)
set_option maxRecDepth 20000 in
theorem gX3_make_X3_findBits : GoodIn wsX3_make (wsV RX3 34 RX3 yX3_findBits wsX3_findBits) := goodIn_app (goodIn_of _ (by decide +kernel)) ggX3_make_X3_findBits
set_option maxRecDepth 20000 in
theorem ggX3_make_X3_greatestLoser : GoodIn wsX3_make wsX3_greatestLoser := goodIn_r _ [34, 20, 21, 22, 7, 23, 12, 11, 24, 25, 26, 27, 28, 29, 30, 35, 36, 37, 38, 39, 40, 41] (by decide +kernel) (by decide +kernel)
set_option maxRecDepth 20000 in
theorem gX3_make_X3_greatestLoser : GoodIn wsX3_make (wsV RX3 38 RX3 yX3_greatestLoser wsX3_greatestLoser) := goodIn_app (goodIn_of _ (by decide +kernel)) ggX3_make_X3_greatestLoser
theorem dX3_make_0 : decode cX3_make 0 = .ok (.aload_n 0, 1) := by decide +kernel
theorem dX3_make_1 : decode cX3_make 1 = .ok (.iload_n 2, 1) := by decide +kernel
theorem dX3_make_2 : decode cX3_make 2 = .ok (.putfield 18, 3) := by decide +kernel
theorem dX3_make_5 : decode cX3_make 5 = .ok (.aload_n 0, 1) := by decide +kernel
theorem dX3_make_6 : decode cX3_make 6 = .ok (.iconst 0, 1) := by decide +kernel
theorem dX3_make_7 : decode cX3_make 7 = .ok (.putfield 28, 3) := by decide +kernel
theorem dX3_make_10 : decode cX3_make 10 = .ok (.aload_n 0, 1) := by decide +kernel
theorem dX3_make_11 : decode cX3_make 11 = .ok (.iload_n 1, 1) := by decide +kernel
theorem dX3_make_12 : decode cX3_make 12 = .ok (.iload_n 3, 1) := by decide +kernel
theorem dX3_make_13 : decode cX3_make 13 = .ok (.invokevirtual 34, 3) := by decide +kernel
theorem dX3_make_16 : decode cX3_make 16 = .ok (.iconst 0, 1) := by decide +kernel
theorem dX3_make_17 : decode cX3_make 17 = .ok (.istore 4, 2) := by decide +kernel
theorem dX3_make_19 : decode cX3_make 19 = .ok (.iload 4, 2) := by decide +kernel
theorem dX3_make_21 : decode cX3_make 21 = .ok (.iconst 3, 1) := by decide +kernel
theorem dX3_make_22 : decode cX3_make 22 = .ok (.if_icmp .ge 37, 3) := by decide +kernel
theorem dX3_make_25 : decode cX3_make 25 = .ok (.aload_n 0, 1) := by decide +kernel
theorem dX3_make_26 : decode cX3_make 26 = .ok (.getfield 31, 3) := by decide +kernel
theorem dX3_make_29 : decode cX3_make 29 = .ok (.ifCond .le 30, 3) := by decide +kernel
theorem dX3_make_32 : decode cX3_make 32 = .ok (.aload_n 0, 1) := by decide +kernel
theorem dX3_make_33 : decode cX3_make 33 = .ok (.dup, 1) := by decide +kernel
theorem dX3_make_34 : decode cX3_make 34 = .ok (.getfield 28, 3) := by decide +kernel
theorem dX3_make_37 : decode cX3_make 37 = .ok (.iconst 1, 1) := by decide +kernel
theorem dX3_make_38 : decode cX3_make 38 = .ok (.aload_n 0, 1) := by decide +kernel
theorem dX3_make_39 : decode cX3_make 39 = .ok (.invokevirtual 38, 3) := by decide +kernel
theorem dX3_make_42 : decode cX3_make 42 = .ok (.ishl, 1) := by decide +kernel
theorem dX3_make_43 : decode cX3_make 43 = .ok (.ior, 1) := by decide +kernel
theorem dX3_make_44 : decode cX3_make 44 = .ok (.putfield 28, 3) := by decide +kernel
theorem dX3_make_47 : decode cX3_make 47 = .ok (.aload_n 0, 1) := by decide +kernel
theorem dX3_make_48 : decode cX3_make 48 = .ok (.iload_n 1, 1) := by decide +kernel
theorem dX3_make_49 : decode cX3_make 49 = .ok (.iload_n 3, 1) := by decide +kernel
theorem dX3_make_50 : decode cX3_make 50 = .ok (.invokevirtual 34, 3) := by decide +kernel
theorem dX3_make_53 : decode cX3_make 53 = .ok (.iinc 4 1, 3) := by decide +kernel
theorem dX3_make_56 : decode cX3_make 56 = .ok (.goto (-37), 3) := by decide +kernel
theorem dX3_make_59 : decode cX3_make 59 = .ok (.return_, 1) := by decide +kernel
set_option maxRecDepth 20000 in
theorem ggX3_findBits_X3_sharedBy : GoodIn wsX3_findBits wsX3_sharedBy := goodIn_r _ [11, 6, 12, 13, 14, 26, 27, 28, 29, 30, 31, 32] (by decide +kernel) (by decide +kernel)
set_option maxRecDepth 20000 in
theorem gX3_findBits_X3_sharedBy : GoodIn wsX3_findBits (wsV RX3 42 RX3 yX3_sharedBy wsX3_sharedBy) := goodIn_app (goodIn_of _ (by decide +kernel)) ggX3_findBits_X3_sharedBy
set_option maxRecDepth 20000 in
theorem ggX3_findBits_X4_contains : GoodIn wsX3_findBits wsX4_contains := goodIn_r _ [14] (by decide +kernel) (by decide +kernel)
set_option maxRecDepth 20000 in
theorem gX3_findBits_X4_contains_n46 : GoodIn wsX3_findBits (wsX4_contains) := ggX3_findBits_X4_contains
set_option maxRecDepth 20000 in
theorem ggX3_findBits_X3_lossOf : GoodIn wsX3_findBits wsX3_lossOf := goodIn_r _ [18, 6, 5, 19, 20, 21, 22, 23, 24, 25, 26, 27, 28, 29, 30, 31, 32] (by decide +kernel) (by decide +kernel)
set_option maxRecDepth 20000 in
theorem gX3_findBits_X3_lossOf : GoodIn wsX3_findBits (wsV RX3 50 RX3 yX3_lossOf wsX3_lossOf) := goodIn_app (goodIn_of _ (by decide +kernel)) ggX3_findBits_X3_lossOf
theorem dX3_findBits_0 : decode cX3_findBits 0 = .ok (.sipush 255, 3) := by decide +kernel
theorem dX3_findBits_3 : decode cX3_findBits 3 = .ok (.aload_n 0, 1) := by decide +kernel
theorem dX3_findBits_4 : decode cX3_findBits 4 = .ok (.getfield 28, 3) := by decide +kernel
theorem dX3_findBits_7 : decode cX3_findBits 7 = .ok (.iconst (-1), 1) := by decide +kernel
theorem dX3_findBits_8 : decode cX3_findBits 8 = .ok (.ixor, 1) := by decide +kernel
theorem dX3_findBits_9 : decode cX3_findBits 9 = .ok (.iand, 1) := by decide +kernel
theorem dX3_findBits_10 : decode cX3_findBits 10 = .ok (.iconst 1, 1) := by decide +kernel
theorem dX3_findBits_11 : decode cX3_findBits 11 = .ok (.iload_n 1, 1) := by decide +kernel
theorem dX3_findBits_12 : decode cX3_findBits 12 = .ok (.ishl, 1) := by decide +kernel
theorem dX3_findBits_13 : decode cX3_findBits 13 = .ok (.iconst (-1), 1) := by decide +kernel
theorem dX3_findBits_14 : decode cX3_findBits 14 = .ok (.ixor, 1) := by decide +kernel
theorem dX3_findBits_15 : decode cX3_findBits 15 = .ok (.iand, 1) := by decide +kernel
theorem dX3_findBits_16 : decode cX3_findBits 16 = .ok (.istore_n 3, 1) := by decide +kernel
theorem dX3_findBits_17 : decode cX3_findBits 17 = .ok (.aload_n 0, 1) := by decide +kernel
theorem dX3_findBits_18 : decode cX3_findBits 18 = .ok (.aload_n 0, 1) := by decide +kernel
theorem dX3_findBits_19 : decode cX3_findBits 19 = .ok (.iload_n 3, 1) := by decide +kernel
theorem dX3_findBits_20 : decode cX3_findBits 20 = .ok (.iload_n 2, 1) := by decide +kernel
theorem dX3_findBits_21 : decode cX3_findBits 21 = .ok (.iand, 1) := by decide +kernel
theorem dX3_findBits_22 : decode cX3_findBits 22 = .ok (.invokevirtual 42, 3) := by decide +kernel
theorem dX3_findBits_25 : decode cX3_findBits 25 = .ok (.putfield 22, 3) := by decide +kernel
theorem dX3_findBits_28 : decode cX3_findBits 28 = .ok (.aload_n 0, 1) := by decide +kernel
theorem dX3_findBits_29 : decode cX3_findBits 29 = .ok (.aload_n 0, 1) := by decide +kernel
theorem dX3_findBits_30 : decode cX3_findBits 30 = .ok (.iload_n 3, 1) := by decide +kernel
theorem dX3_findBits_31 : decode cX3_findBits 31 = .ok (.iload_n 2, 1) := by decide +kernel
theorem dX3_findBits_32 : decode cX3_findBits 32 = .ok (.iconst (-1), 1) := by decide +kernel
theorem dX3_findBits_33 : decode cX3_findBits 33 = .ok (.ixor, 1) := by decide +kernel
theorem dX3_findBits_34 : decode cX3_findBits 34 = .ok (.iand, 1) := by decide +kernel
theorem dX3_findBits_35 : decode cX3_findBits 35 = .ok (.invokevirtual 42, 3) := by decide +kernel
theorem dX3_findBits_38 : decode cX3_findBits 38 = .ok (.putfield 25, 3) := by decide +kernel
theorem dX3_findBits_41 : decode cX3_findBits 41 = .ok (.aload_n 0, 1) := by decide +kernel
theorem dX3_findBits_42 : decode cX3_findBits 42 = .ok (.iconst 0, 1) := by decide +kernel
theorem dX3_findBits_43 : decode cX3_findBits 43 = .ok (.putfield 31, 3) := by decide +kernel
theorem dX3_findBits_46 : decode cX3_findBits 46 = .ok (.iconst 0, 1) := by decide +kernel
theorem dX3_findBits_47 : decode cX3_findBits 47 = .ok (.istore 4, 2) := by decide +kernel
theorem dX3_findBits_49 : decode cX3_findBits 49 = .ok (.iload 4, 2) := by decide +kernel
theorem dX3_findBits_51 : decode cX3_findBits 51 = .ok (.bipush 8, 2) := by decide +kernel
theorem dX3_findBits_53 : decode cX3_findBits 53 = .ok (.if_icmp .ge 77, 3) := by decide +kernel
theorem dX3_findBits_56 : decode cX3_findBits 56 = .ok (.iload_n 3, 1) := by decide +kernel
theorem dX3_findBits_57 : decode cX3_findBits 57 = .ok (.iload 4, 2) := by decide +kernel
theorem dX3_findBits_59 : decode cX3_findBits 59 = .ok (.invokestatic 46, 3) := by decide +kernel
theorem dX3_findBits_62 : decode cX3_findBits 62 = .ok (.ifCond .ne 20, 3) := by decide +kernel
theorem dX3_findBits_65 : decode cX3_findBits 65 = .ok (.aload_n 0, 1) := by decide +kernel
theorem dX3_findBits_66 : decode cX3_findBits 66 = .ok (.getfield 15, 3) := by decide +kernel
theorem dX3_findBits_69 : decode cX3_findBits 69 = .ok (.iload 4, 2) := by decide +kernel
theorem dX3_findBits_71 : decode cX3_findBits 71 = .ok (.aload_n 0, 1) := by decide +kernel
theorem dX3_findBits_72 : decode cX3_findBits 72 = .ok (.getfield 9, 3) := by decide +kernel
theorem dX3_findBits_75 : decode cX3_findBits 75 = .ok (.iload 4, 2) := by decide +kernel
theorem dX3_findBits_77 : decode cX3_findBits 77 = .ok (.iaload, 1) := by decide +kernel
theorem dX3_findBits_78 : decode cX3_findBits 78 = .ok (.iastore, 1) := by decide +kernel
theorem dX3_findBits_79 : decode cX3_findBits 79 = .ok (.goto 30, 3) := by decide +kernel
theorem dX3_findBits_82 : decode cX3_findBits 82 = .ok (.aload_n 0, 1) := by decide +kernel
theorem dX3_findBits_83 : decode cX3_findBits 83 = .ok (.getfield 15, 3) := by decide +kernel
theorem dX3_findBits_86 : decode cX3_findBits 86 = .ok (.iload 4, 2) := by decide +kernel
theorem dX3_findBits_88 : decode cX3_findBits 88 = .ok (.iload_n 2, 1) := by decide +kernel
theorem dX3_findBits_89 : decode cX3_findBits 89 = .ok (.iload 4, 2) := by decide +kernel
theorem dX3_findBits_91 : decode cX3_findBits 91 = .ok (.invokestatic 46, 3) := by decide +kernel
theorem dX3_findBits_94 : decode cX3_findBits 94 = .ok (.ifCond .eq 10, 3) := by decide +kernel
theorem dX3_findBits_97 : decode cX3_findBits 97 = .ok (.aload_n 0, 1) := by decide +kernel
theorem dX3_findBits_98 : decode cX3_findBits 98 = .ok (.getfield 22, 3) := by decide +kernel
theorem dX3_findBits_101 : decode cX3_findBits 101 = .ok (.goto 7, 3) := by decide +kernel
theorem dX3_findBits_104 : decode cX3_findBits 104 = .ok (.aload_n 0, 1) := by decide +kernel
theorem dX3_findBits_105 : decode cX3_findBits 105 = .ok (.getfield 25, 3) := by decide +kernel
theorem dX3_findBits_108 : decode cX3_findBits 108 = .ok (.iastore, 1) := by decide +kernel
theorem dX3_findBits_109 : decode cX3_findBits 109 = .ok (.aload_n 0, 1) := by decide +kernel
theorem dX3_findBits_110 : decode cX3_findBits 110 = .ok (.dup, 1) := by decide +kernel
theorem dX3_findBits_111 : decode cX3_findBits 111 = .ok (.getfield 31, 3) := by decide +kernel
theorem dX3_findBits_114 : decode cX3_findBits 114 = .ok (.aload_n 0, 1) := by decide +kernel
theorem dX3_findBits_115 : decode cX3_findBits 115 = .ok (.iload 4, 2) := by decide +kernel
theorem dX3_findBits_117 : decode cX3_findBits 117 = .ok (.invokevirtual 50, 3) := by decide +kernel
theorem dX3_findBits_120 : decode cX3_findBits 120 = .ok (.iadd, 1) := by decide +kernel
theorem dX3_findBits_121 : decode cX3_findBits 121 = .ok (.putfield 31, 3) := by decide +kernel
theorem dX3_findBits_124 : decode cX3_findBits 124 = .ok (.iinc 4 1, 3) := by decide +kernel
theorem dX3_findBits_127 : decode cX3_findBits 127 = .ok (.goto (-78), 3) := by decide +kernel
theorem dX3_findBits_130 : decode cX3_findBits 130 = .ok (.return_, 1) := by decide +kernel
set_option maxRecDepth 20000 in
theorem ggX3_sharedBy_X4_contains : GoodIn wsX3_sharedBy wsX4_contains := goodIn_r _ [4] (by decide +kernel) (by decide +kernel)
set_option maxRecDepth 20000 in
theorem gX3_sharedBy_X4_contains_n46 : GoodIn wsX3_sharedBy (wsX4_contains) := ggX3_sharedBy_X4_contains
theorem dX3_sharedBy_0 : decode cX3_sharedBy 0 = .ok (.iload_n 1, 1) := by decide +kernel
theorem dX3_sharedBy_1 : decode cX3_sharedBy 1 = .ok (.ifCond .ne 5, 3) := by decide +kernel
theorem dX3_sharedBy_4 : decode cX3_sharedBy 4 = .ok (.iconst 0, 1) := by decide +kernel
theorem dX3_sharedBy_5 : decode cX3_sharedBy 5 = .ok (.ireturn, 1) := by decide +kernel
theorem dX3_sharedBy_6 : decode cX3_sharedBy 6 = .ok (.bipush 7, 2) := by decide +kernel
theorem dX3_sharedBy_8 : decode cX3_sharedBy 8 = .ok (.istore_n 2, 1) := by decide +kernel
theorem dX3_sharedBy_9 : decode cX3_sharedBy 9 = .ok (.iconst 0, 1) := by decide +kernel
theorem dX3_sharedBy_10 : decode cX3_sharedBy 10 = .ok (.istore_n 3, 1) := by decide +kernel
theorem dX3_sharedBy_11 : decode cX3_sharedBy 11 = .ok (.iload_n 3, 1) := by decide +kernel
theorem dX3_sharedBy_12 : decode cX3_sharedBy 12 = .ok (.bipush 8, 2) := by decide +kernel
theorem dX3_sharedBy_14 : decode cX3_sharedBy 14 = .ok (.if_icmp .ge 26, 3) := by decide +kernel
theorem dX3_sharedBy_17 : decode cX3_sharedBy 17 = .ok (.iload_n 1, 1) := by decide +kernel
theorem dX3_sharedBy_18 : decode cX3_sharedBy 18 = .ok (.iload_n 3, 1) := by decide +kernel
theorem dX3_sharedBy_19 : decode cX3_sharedBy 19 = .ok (.invokestatic 46, 3) := by decide +kernel
theorem dX3_sharedBy_22 : decode cX3_sharedBy 22 = .ok (.ifCond .eq 12, 3) := by decide +kernel
theorem dX3_sharedBy_25 : decode cX3_sharedBy 25 = .ok (.iload_n 2, 1) := by decide +kernel
theorem dX3_sharedBy_26 : decode cX3_sharedBy 26 = .ok (.aload_n 0, 1) := by decide +kernel
theorem dX3_sharedBy_27 : decode cX3_sharedBy 27 = .ok (.getfield 9, 3) := by decide +kernel
theorem dX3_sharedBy_30 : decode cX3_sharedBy 30 = .ok (.iload_n 3, 1) := by decide +kernel
theorem dX3_sharedBy_31 : decode cX3_sharedBy 31 = .ok (.iaload, 1) := by decide +kernel
theorem dX3_sharedBy_32 : decode cX3_sharedBy 32 = .ok (.iand, 1) := by decide +kernel
theorem dX3_sharedBy_33 : decode cX3_sharedBy 33 = .ok (.istore_n 2, 1) := by decide +kernel
theorem dX3_sharedBy_34 : decode cX3_sharedBy 34 = .ok (.iinc 3 1, 3) := by decide +kernel
theorem dX3_sharedBy_37 : decode cX3_sharedBy 37 = .ok (.goto (-26), 3) := by decide +kernel
theorem dX3_sharedBy_40 : decode cX3_sharedBy 40 = .ok (.iload_n 2, 1) := by decide +kernel
theorem dX3_sharedBy_41 : decode cX3_sharedBy 41 = .ok (.ireturn, 1) := by decide +kernel
set_option maxRecDepth 20000 in
theorem ggX3_lossOf_J6_bitCount_0f7a4 : GoodIn wsX3_lossOf wsJ6_bitCount_0f7a4 := goodIn_r _ [6, 7, 8, 9] (by decide +kernel) (by decide +kernel)
set_option maxRecDepth 20000 in
theorem gX3_lossOf_J6_bitCount_0f7a4 : GoodIn wsX3_lossOf (va_wsS RX3 53 yJ6_bitCount_0f7a4 wsJ6_bitCount_0f7a4) := goodIn_app (goodIn_of _ (by decide +kernel)) ggX3_lossOf_J6_bitCount_0f7a4
theorem dX3_lossOf_0 : decode cX3_lossOf 0 = .ok (.aload_n 0, 1) := by decide +kernel
theorem dX3_lossOf_1 : decode cX3_lossOf 1 = .ok (.getfield 9, 3) := by decide +kernel
theorem dX3_lossOf_4 : decode cX3_lossOf 4 = .ok (.iload_n 1, 1) := by decide +kernel
theorem dX3_lossOf_5 : decode cX3_lossOf 5 = .ok (.iaload, 1) := by decide +kernel
theorem dX3_lossOf_6 : decode cX3_lossOf 6 = .ok (.aload_n 0, 1) := by decide +kernel
theorem dX3_lossOf_7 : decode cX3_lossOf 7 = .ok (.getfield 15, 3) := by decide +kernel
theorem dX3_lossOf_10 : decode cX3_lossOf 10 = .ok (.iload_n 1, 1) := by decide +kernel
theorem dX3_lossOf_11 : decode cX3_lossOf 11 = .ok (.iaload, 1) := by decide +kernel
theorem dX3_lossOf_12 : decode cX3_lossOf 12 = .ok (.iconst (-1), 1) := by decide +kernel
theorem dX3_lossOf_13 : decode cX3_lossOf 13 = .ok (.ixor, 1) := by decide +kernel
theorem dX3_lossOf_14 : decode cX3_lossOf 14 = .ok (.iand, 1) := by decide +kernel
theorem dX3_lossOf_15 : decode cX3_lossOf 15 = .ok (.invokestatic 53, 3) := by decide +kernel
theorem dX3_lossOf_18 : decode cX3_lossOf 18 = .ok (.ireturn, 1) := by decide +kernel
set_option maxRecDepth 20000 in
theorem ggX3_greatestLoser_X3_lossOf : GoodIn wsX3_greatestLoser wsX3_lossOf := goodIn_r _ [5, 6, 7, 8, 9, 10, 11, 12, 13, 14, 15, 16, 17, 18, 19, 20, 21] (by decide +kernel) (by decide +kernel)
set_option maxRecDepth 20000 in
theorem gX3_greatestLoser_X3_lossOf : GoodIn wsX3_greatestLoser (wsV RX3 50 RX3 yX3_lossOf wsX3_lossOf) := goodIn_app (goodIn_of _ (by decide +kernel)) ggX3_greatestLoser_X3_lossOf
theorem dX3_greatestLoser_0 : decode cX3_greatestLoser 0 = .ok (.iconst 0, 1) := by decide +kernel
theorem dX3_greatestLoser_1 : decode cX3_greatestLoser 1 = .ok (.istore_n 1, 1) := by decide +kernel
theorem dX3_greatestLoser_2 : decode cX3_greatestLoser 2 = .ok (.iconst 1, 1) := by decide +kernel
theorem dX3_greatestLoser_3 : decode cX3_greatestLoser 3 = .ok (.istore_n 2, 1) := by decide +kernel
theorem dX3_greatestLoser_4 : decode cX3_greatestLoser 4 = .ok (.iload_n 2, 1) := by decide +kernel
theorem dX3_greatestLoser_5 : decode cX3_greatestLoser 5 = .ok (.bipush 8, 2) := by decide +kernel
theorem dX3_greatestLoser_7 : decode cX3_greatestLoser 7 = .ok (.if_icmp .ge 24, 3) := by decide +kernel
theorem dX3_greatestLoser_10 : decode cX3_greatestLoser 10 = .ok (.aload_n 0, 1) := by decide +kernel
theorem dX3_greatestLoser_11 : decode cX3_greatestLoser 11 = .ok (.iload_n 2, 1) := by decide +kernel
theorem dX3_greatestLoser_12 : decode cX3_greatestLoser 12 = .ok (.invokevirtual 50, 3) := by decide +kernel
theorem dX3_greatestLoser_15 : decode cX3_greatestLoser 15 = .ok (.aload_n 0, 1) := by decide +kernel
theorem dX3_greatestLoser_16 : decode cX3_greatestLoser 16 = .ok (.iload_n 1, 1) := by decide +kernel
theorem dX3_greatestLoser_17 : decode cX3_greatestLoser 17 = .ok (.invokevirtual 50, 3) := by decide +kernel
theorem dX3_greatestLoser_20 : decode cX3_greatestLoser 20 = .ok (.if_icmp .le 5, 3) := by decide +kernel
theorem dX3_greatestLoser_23 : decode cX3_greatestLoser 23 = .ok (.iload_n 2, 1) := by decide +kernel
theorem dX3_greatestLoser_24 : decode cX3_greatestLoser 24 = .ok (.istore_n 1, 1) := by decide +kernel
theorem dX3_greatestLoser_25 : decode cX3_greatestLoser 25 = .ok (.iinc 2 1, 3) := by decide +kernel
theorem dX3_greatestLoser_28 : decode cX3_greatestLoser 28 = .ok (.goto (-24), 3) := by decide +kernel
theorem dX3_greatestLoser_31 : decode cX3_greatestLoser 31 = .ok (.iload_n 1, 1) := by decide +kernel
theorem dX3_greatestLoser_32 : decode cX3_greatestLoser 32 = .ok (.ireturn, 1) := by decide +kernel
set_option maxRecDepth 20000 in
theorem ggX4_init_X2_init : GoodIn wsX4_init wsX2_init := goodIn_r _ [20, 21, 2, 3, 22, 23, 24, 25, 117, 118, 119] (by decide +kernel) (by decide +kernel)
set_option maxRecDepth 20000 in
theorem gX4_init_X2_init_n11 : GoodIn wsX4_init (wsX2_init) := ggX4_init_X2_init
set_option maxRecDepth 20000 in
theorem ggX4_init_Jx4a65c_init_da8c8 : GoodIn wsX4_init wsJx4a65c_init_da8c8 := goodIn_r _ [28, 29, 30, 31, 32, 33, 34, 35, 36, 37, 38, 39, 40, 2, 3, 123, 124, 125] (by decide +kernel) (by decide +kernel)
set_option maxRecDepth 20000 in
theorem gX4_init_Jx4a65c_init_da8c8 : GoodIn wsX4_init (wsJx4a65c_init_da8c8) := ggX4_init_Jx4a65c_init_da8c8
set_option maxRecDepth 20000 in
theorem ggX4_init_X3_init : GoodIn wsX4_init wsX3_init := goodIn_r _ [42, 43, 2, 3, 22, 44, 45, 46, 47, 48, 49, 50, 126, 127, 128, 129, 130, 131, 132] (by decide +kernel) (by decide +kernel)
set_option maxRecDepth 20000 in
theorem gX4_init_X3_init_n25 : GoodIn wsX4_init (wsX3_init) := ggX4_init_X3_init
set_option maxRecDepth 20000 in
theorem ggX4_init_X1_init : GoodIn wsX4_init wsX1_init := goodIn_r _ [53, 54, 2, 3, 55, 9, 10, 56, 22, 57, 58, 59, 60, 61, 62, 63, 27, 28, 29, 30, 31, 32, 33, 34, 35, 36, 37, 38, 39, 40, 123, 124, 125, 133, 134, 135, 136, 137, 138, 139] (by decide +kernel) (by decide +kernel)
set_option maxRecDepth 20000 in
theorem gX4_init_X1_init : GoodIn wsX4_init (wsX1_init) := ggX4_init_X1_init
set_option maxRecDepth 20000 in
theorem ggX4_init_Jx4a65c_add_9ea2d : GoodIn wsX4_init wsJx4a65c_add_9ea2d := goodIn_r _ [67, 68, 69, 30, 70, 71, 72, 73, 10, 74, 75, 76, 77, 78, 79, 80, 81, 82, 29, 83, 84, 85, 86, 87, 88, 89, 90, 91, 92, 93, 94, 95, 96, 97, 98, 99, 100, 101, 102, 103, 104, 105, 106, 107, 108, 109, 110, 111, 112, 113, 114, 115, 116, 123, 124, 125] (by decide +kernel) (by decide +kernel)
set_option maxRecDepth 20000 in
theorem gX4_init_Jx4a65c_add_9ea2d : GoodIn wsX4_init (wsV RX4 35 RJx4a65c yJx4a65c_add_9ea2d wsJx4a65c_add_9ea2d) := goodIn_app (goodIn_of _ (by decide +kernel)) ggX4_init_Jx4a65c_add_9ea2d
theorem dX4_init_0 : decode cX4_init 0 = .ok (.aload_n 0, 1) := by decide +kernel
theorem dX4_init_1 : decode cX4_init 1 = .ok (.invokespecial 3, 3) := by decide +kernel
theorem dX4_init_4 : decode cX4_init 4 = .ok (.aload_n 0, 1) := by decide +kernel
theorem dX4_init_5 : decode cX4_init 5 = .ok (.new 9, 3) := by decide +kernel
theorem dX4_init_8 : decode cX4_init 8 = .ok (.dup, 1) := by decide +kernel
theorem dX4_init_9 : decode cX4_init 9 = .ok (.invokespecial 11, 3) := by decide +kernel
theorem dX4_init_12 : decode cX4_init 12 = .ok (.putfield 12, 3) := by decide +kernel
theorem dX4_init_15 : decode cX4_init 15 = .ok (.aload_n 0, 1) := by decide +kernel
theorem dX4_init_16 : decode cX4_init 16 = .ok (.new 16, 3) := by decide +kernel
theorem dX4_init_19 : decode cX4_init 19 = .ok (.dup, 1) := by decide +kernel
theorem dX4_init_20 : decode cX4_init 20 = .ok (.invokespecial 18, 3) := by decide +kernel
theorem dX4_init_23 : decode cX4_init 23 = .ok (.putfield 19, 3) := by decide +kernel
theorem dX4_init_26 : decode cX4_init 26 = .ok (.aload_n 0, 1) := by decide +kernel
theorem dX4_init_27 : decode cX4_init 27 = .ok (.new 23, 3) := by decide +kernel
theorem dX4_init_30 : decode cX4_init 30 = .ok (.dup, 1) := by decide +kernel
theorem dX4_init_31 : decode cX4_init 31 = .ok (.invokespecial 25, 3) := by decide +kernel
theorem dX4_init_34 : decode cX4_init 34 = .ok (.putfield 26, 3) := by decide +kernel
theorem dX4_init_37 : decode cX4_init 37 = .ok (.aload_n 0, 1) := by decide +kernel
theorem dX4_init_38 : decode cX4_init 38 = .ok (.getfield 19, 3) := by decide +kernel
theorem dX4_init_41 : decode cX4_init 41 = .ok (.new 30, 3) := by decide +kernel
theorem dX4_init_44 : decode cX4_init 44 = .ok (.dup, 1) := by decide +kernel
theorem dX4_init_45 : decode cX4_init 45 = .ok (.aconst_null, 1) := by decide +kernel
theorem dX4_init_46 : decode cX4_init 46 = .ok (.iconst 0, 1) := by decide +kernel
theorem dX4_init_47 : decode cX4_init 47 = .ok (.invokespecial 32, 3) := by decide +kernel
theorem dX4_init_50 : decode cX4_init 50 = .ok (.invokevirtual 35, 3) := by decide +kernel
theorem dX4_init_53 : decode cX4_init 53 = .ok (.pop, 1) := by decide +kernel
theorem dX4_init_54 : decode cX4_init 54 = .ok (.return_, 1) := by decide +kernel
set_option maxRecDepth 20000 in
theorem ggX4_setMember_X4_refuseNoGroup : GoodIn wsX4_setMember wsX4_refuseNoGroup := goodIn_ca (goodIn_r _ [5, 6, 7] (by decide +kernel) (by decide +kernel)) (goodIn_sub (fun _ h => List.mem_cons_of_mem _ (List.mem_append_right _ h)) (by decide +kernel))
set_option maxRecDepth 20000 in
theorem gX4_setMember_X4_refuseNoGroup : GoodIn wsX4_setMember (va_wsS RX4 39 yX4_refuseNoGroup wsX4_refuseNoGroup) := goodIn_app (goodIn_of _ (by decide +kernel)) ggX4_setMember_X4_refuseNoGroup
set_option maxRecDepth 20000 in
theorem ggX4_setMember_X4_refuseNoPerson : GoodIn wsX4_setMember wsX4_refuseNoPerson := goodIn_ca (goodIn_r _ [10, 6, 7] (by decide +kernel) (by decide +kernel)) (goodIn_sub (fun _ h => List.mem_cons_of_mem _ (List.mem_append_right _ h)) (by decide +kernel))
set_option maxRecDepth 20000 in
theorem gX4_setMember_X4_refuseNoPerson : GoodIn wsX4_setMember (va_wsS RX4 43 yX4_refuseNoPerson wsX4_refuseNoPerson) := goodIn_app (goodIn_of _ (by decide +kernel)) ggX4_setMember_X4_refuseNoPerson
set_option maxRecDepth 20000 in
theorem ggX4_setMember_X2_put : GoodIn wsX4_setMember wsX2_put := goodIn_r _ [15, 16, 17, 4, 18, 19, 20, 21, 14, 22, 23, 24, 25, 26, 27, 28, 32, 33, 34] (by decide +kernel) (by decide +kernel)
set_option maxRecDepth 20000 in
theorem gX4_setMember_X2_put : GoodIn wsX4_setMember (wsV RX4 46 RX2 yX2_put wsX2_put) := goodIn_app (goodIn_of _ (by decide +kernel)) ggX4_setMember_X2_put
theorem dX4_setMember_0 : decode cX4_setMember 0 = .ok (.iload_n 1, 1) := by decide +kernel
theorem dX4_setMember_1 : decode cX4_setMember 1 = .ok (.invokestatic 39, 3) := by decide +kernel
theorem dX4_setMember_4 : decode cX4_setMember 4 = .ok (.iload_n 2, 1) := by decide +kernel
theorem dX4_setMember_5 : decode cX4_setMember 5 = .ok (.invokestatic 43, 3) := by decide +kernel
theorem dX4_setMember_8 : decode cX4_setMember 8 = .ok (.aload_n 0, 1) := by decide +kernel
theorem dX4_setMember_9 : decode cX4_setMember 9 = .ok (.getfield 12, 3) := by decide +kernel
theorem dX4_setMember_12 : decode cX4_setMember 12 = .ok (.iload_n 1, 1) := by decide +kernel
theorem dX4_setMember_13 : decode cX4_setMember 13 = .ok (.iload_n 2, 1) := by decide +kernel
theorem dX4_setMember_14 : decode cX4_setMember 14 = .ok (.iload_n 3, 1) := by decide +kernel
theorem dX4_setMember_15 : decode cX4_setMember 15 = .ok (.invokevirtual 46, 3) := by decide +kernel
theorem dX4_setMember_18 : decode cX4_setMember 18 = .ok (.ireturn, 1) := by decide +kernel
set_option maxRecDepth 20000 in
theorem ggX4_nest_X4_refuseNoGroup : GoodIn wsX4_nest wsX4_refuseNoGroup := goodIn_ca (goodIn_r _ [7, 8, 9] (by decide +kernel) (by decide +kernel)) (goodIn_sub (fun _ h => List.mem_cons_of_mem _ (List.mem_append_right _ h)) (by decide +kernel))
set_option maxRecDepth 20000 in
theorem gX4_nest_X4_refuseNoGroup : GoodIn wsX4_nest (va_wsS RX4 39 yX4_refuseNoGroup wsX4_refuseNoGroup) := goodIn_app (goodIn_of _ (by decide +kernel)) ggX4_nest_X4_refuseNoGroup
set_option maxRecDepth 20000 in
theorem ggX4_nest_X2_reachedFrom : GoodIn wsX4_nest wsX2_reachedFrom := goodIn_r _ [14, 15, 16, 6, 17, 33, 34, 35] (by decide +kernel) (by decide +kernel)
set_option maxRecDepth 20000 in
theorem gX4_nest_X2_reachedFrom : GoodIn wsX4_nest (wsV RX4 50 RX2 yX2_reachedFrom wsX2_reachedFrom) := goodIn_app (goodIn_of _ (by decide +kernel)) ggX4_nest_X2_reachedFrom
set_option maxRecDepth 20000 in
theorem ggX4_nest_X4_contains : GoodIn wsX4_nest wsX4_contains := goodIn_r _ [17] (by decide +kernel) (by decide +kernel)
set_option maxRecDepth 20000 in
theorem gX4_nest_X4_contains : GoodIn wsX4_nest (va_wsS RX4 54 yX4_contains wsX4_contains) := goodIn_app (goodIn_of _ (by decide +kernel)) ggX4_nest_X4_contains
set_option maxRecDepth 20000 in
theorem ggX4_nest_X2_toggleInner : GoodIn wsX4_nest wsX2_toggleInner := goodIn_r _ [22, 15, 23, 24, 25, 13, 26, 27, 28, 29, 11, 12, 14, 16, 6, 17, 33, 34, 35] (by decide +kernel) (by decide +kernel)
set_option maxRecDepth 20000 in
theorem gX4_nest_X2_toggleInner : GoodIn wsX4_nest (wsV RX4 65 RX2 yX2_toggleInner wsX2_toggleInner) := goodIn_app (goodIn_of _ (by decide +kernel)) ggX4_nest_X2_toggleInner
theorem dX4_nest_0 : decode cX4_nest 0 = .ok (.iload_n 1, 1) := by decide +kernel
theorem dX4_nest_1 : decode cX4_nest 1 = .ok (.invokestatic 39, 3) := by decide +kernel
theorem dX4_nest_4 : decode cX4_nest 4 = .ok (.iload_n 2, 1) := by decide +kernel
theorem dX4_nest_5 : decode cX4_nest 5 = .ok (.invokestatic 39, 3) := by decide +kernel
theorem dX4_nest_8 : decode cX4_nest 8 = .ok (.aload_n 0, 1) := by decide +kernel
theorem dX4_nest_9 : decode cX4_nest 9 = .ok (.getfield 12, 3) := by decide +kernel
theorem dX4_nest_12 : decode cX4_nest 12 = .ok (.iload_n 2, 1) := by decide +kernel
theorem dX4_nest_13 : decode cX4_nest 13 = .ok (.invokevirtual 50, 3) := by decide +kernel
theorem dX4_nest_16 : decode cX4_nest 16 = .ok (.iload_n 1, 1) := by decide +kernel
theorem dX4_nest_17 : decode cX4_nest 17 = .ok (.invokestatic 54, 3) := by decide +kernel
theorem dX4_nest_20 : decode cX4_nest 20 = .ok (.ifCond .eq 13, 3) := by decide +kernel
theorem dX4_nest_23 : decode cX4_nest 23 = .ok (.new 58, 3) := by decide +kernel
theorem dX4_nest_26 : decode cX4_nest 26 = .ok (.dup, 1) := by decide +kernel
theorem dX4_nest_27 : decode cX4_nest 27 = .ok (.ldc 60, 2) := by decide +kernel
theorem dX4_nest_29 : decode cX4_nest 29 = .ok (.invokespecial 62, 3) := by decide +kernel
theorem dX4_nest_32 : decode cX4_nest 32 = .ok (.athrow, 1) := by decide +kernel
theorem dX4_nest_33 : decode cX4_nest 33 = .ok (.aload_n 0, 1) := by decide +kernel
theorem dX4_nest_34 : decode cX4_nest 34 = .ok (.getfield 12, 3) := by decide +kernel
theorem dX4_nest_37 : decode cX4_nest 37 = .ok (.iload_n 1, 1) := by decide +kernel
theorem dX4_nest_38 : decode cX4_nest 38 = .ok (.iload_n 2, 1) := by decide +kernel
theorem dX4_nest_39 : decode cX4_nest 39 = .ok (.invokevirtual 65, 3) := by decide +kernel
theorem dX4_nest_42 : decode cX4_nest 42 = .ok (.ireturn, 1) := by decide +kernel
set_option maxRecDepth 20000 in
theorem ggX4_members_X4_refuseNoGroup : GoodIn wsX4_members wsX4_refuseNoGroup := goodIn_ca (goodIn_r _ [5, 6, 7] (by decide +kernel) (by decide +kernel)) (goodIn_sub (fun _ h => List.mem_cons_of_mem _ (List.mem_append_right _ h)) (by decide +kernel))
set_option maxRecDepth 20000 in
theorem gX4_members_X4_refuseNoGroup : GoodIn wsX4_members (va_wsS RX4 39 yX4_refuseNoGroup wsX4_refuseNoGroup) := goodIn_app (goodIn_of _ (by decide +kernel)) ggX4_members_X4_refuseNoGroup
set_option maxRecDepth 20000 in
theorem ggX4_members_X2_everyoneIn : GoodIn wsX4_members wsX2_everyoneIn := goodIn_r _ [12, 13, 17, 18, 19] (by decide +kernel) (by decide +kernel)
set_option maxRecDepth 20000 in
theorem gX4_members_X2_everyoneIn : GoodIn wsX4_members (wsV RX4 68 RX2 yX2_everyoneIn wsX2_everyoneIn) := goodIn_app (goodIn_of _ (by decide +kernel)) ggX4_members_X2_everyoneIn
theorem dX4_members_0 : decode cX4_members 0 = .ok (.iload_n 1, 1) := by decide +kernel
theorem dX4_members_1 : decode cX4_members 1 = .ok (.invokestatic 39, 3) := by decide +kernel
theorem dX4_members_4 : decode cX4_members 4 = .ok (.aload_n 0, 1) := by decide +kernel
theorem dX4_members_5 : decode cX4_members 5 = .ok (.getfield 12, 3) := by decide +kernel
theorem dX4_members_8 : decode cX4_members 8 = .ok (.iload_n 1, 1) := by decide +kernel
theorem dX4_members_9 : decode cX4_members 9 = .ok (.invokevirtual 68, 3) := by decide +kernel
theorem dX4_members_12 : decode cX4_members 12 = .ok (.ireturn, 1) := by decide +kernel
set_option maxRecDepth 20000 in
theorem ggX4_addFolder_X4_folderAt : GoodIn wsX4_addFolder wsX4_folderAt := goodIn_ca (goodIn_r _ [11, 12, 13, 3, 14, 15, 16, 17, 18, 19, 20, 21, 22, 23, 24, 25, 26, 27, 28, 29, 30, 31, 32, 33, 34, 35, 36, 37, 123, 124, 125, 133, 134, 135] (by decide +kernel) (by decide +kernel)) (goodIn_sub (fun _ h => List.mem_cons_of_mem _ (List.mem_append_right _ h)) (by decide +kernel))
set_option maxRecDepth 20000 in
theorem gX4_addFolder_X4_folderAt : GoodIn wsX4_addFolder (wsV RX4 71 RX4 yX4_folderAt wsX4_folderAt) := goodIn_app (goodIn_of _ (by decide +kernel)) ggX4_addFolder_X4_folderAt
set_option maxRecDepth 20000 in
theorem ggX4_addFolder_X4_refuseNoPerson : GoodIn wsX4_addFolder wsX4_refuseNoPerson := goodIn_ca (goodIn_r _ [40, 12, 13] (by decide +kernel) (by decide +kernel)) (goodIn_sub (fun _ h => List.mem_cons_of_mem _ (List.mem_append_right _ h)) (by decide +kernel))
set_option maxRecDepth 20000 in
theorem gX4_addFolder_X4_refuseNoPerson : GoodIn wsX4_addFolder (va_wsS RX4 43 yX4_refuseNoPerson wsX4_refuseNoPerson) := goodIn_app (goodIn_of _ (by decide +kernel)) ggX4_addFolder_X4_refuseNoPerson
set_option maxRecDepth 20000 in
theorem ggX4_addFolder_Jx4a65c_size_8abf5 : GoodIn wsX4_addFolder wsJx4a65c_size_8abf5 := goodIn_r _ [19, 20, 133, 134, 135] (by decide +kernel) (by decide +kernel)
set_option maxRecDepth 20000 in
theorem gX4_addFolder_Jx4a65c_size_8abf5 : GoodIn wsX4_addFolder (wsV RX4 75 RJx4a65c yJx4a65c_size_8abf5 wsJx4a65c_size_8abf5) := goodIn_app (goodIn_of _ (by decide +kernel)) ggX4_addFolder_Jx4a65c_size_8abf5
set_option maxRecDepth 20000 in
theorem ggX4_addFolder_X1_init : GoodIn wsX4_addFolder wsX1_init := goodIn_r _ [43, 44, 45, 46, 47, 48, 18, 49, 50, 51, 52, 53, 54, 55, 56, 57, 58, 59, 60, 37, 61, 62, 63, 64, 65, 66, 67, 68, 69, 70, 133, 134, 135, 126, 127, 128, 129, 130, 131, 132] (by decide +kernel) (by decide +kernel)
set_option maxRecDepth 20000 in
theorem gX4_addFolder_X1_init : GoodIn wsX4_addFolder (wsX1_init) := ggX4_addFolder_X1_init
set_option maxRecDepth 20000 in
theorem ggX4_addFolder_Jx4a65c_add_9ea2d : GoodIn wsX4_addFolder wsJx4a65c_add_9ea2d := goodIn_r _ [74, 75, 76, 37, 20, 77, 78, 79, 18, 80, 81, 82, 83, 84, 85, 86, 87, 88, 60, 89, 90, 91, 92, 93, 94, 95, 96, 97, 98, 99, 100, 101, 102, 103, 104, 105, 106, 107, 108, 109, 110, 111, 112, 113, 114, 115, 116, 117, 118, 119, 120, 121, 122, 133, 134, 135] (by decide +kernel) (by decide +kernel)
set_option maxRecDepth 20000 in
theorem gX4_addFolder_Jx4a65c_add_9ea2d : GoodIn wsX4_addFolder (wsV RX4 35 RJx4a65c yJx4a65c_add_9ea2d wsJx4a65c_add_9ea2d) := goodIn_app (goodIn_of _ (by decide +kernel)) ggX4_addFolder_Jx4a65c_add_9ea2d
theorem dX4_addFolder_0 : decode cX4_addFolder 0 = .ok (.aload_n 0, 1) := by decide +kernel
theorem dX4_addFolder_1 : decode cX4_addFolder 1 = .ok (.iload_n 1, 1) := by decide +kernel
theorem dX4_addFolder_2 : decode cX4_addFolder 2 = .ok (.invokevirtual 71, 3) := by decide +kernel
theorem dX4_addFolder_5 : decode cX4_addFolder 5 = .ok (.astore_n 3, 1) := by decide +kernel
theorem dX4_addFolder_6 : decode cX4_addFolder 6 = .ok (.iload_n 2, 1) := by decide +kernel
theorem dX4_addFolder_7 : decode cX4_addFolder 7 = .ok (.invokestatic 43, 3) := by decide +kernel
theorem dX4_addFolder_10 : decode cX4_addFolder 10 = .ok (.aload_n 0, 1) := by decide +kernel
theorem dX4_addFolder_11 : decode cX4_addFolder 11 = .ok (.getfield 19, 3) := by decide +kernel
theorem dX4_addFolder_14 : decode cX4_addFolder 14 = .ok (.invokevirtual 75, 3) := by decide +kernel
theorem dX4_addFolder_17 : decode cX4_addFolder 17 = .ok (.bipush 20, 2) := by decide +kernel
theorem dX4_addFolder_19 : decode cX4_addFolder 19 = .ok (.if_icmp .lt 13, 3) := by decide +kernel
theorem dX4_addFolder_22 : decode cX4_addFolder 22 = .ok (.new 58, 3) := by decide +kernel
theorem dX4_addFolder_25 : decode cX4_addFolder 25 = .ok (.dup, 1) := by decide +kernel
theorem dX4_addFolder_26 : decode cX4_addFolder 26 = .ok (.ldc 79, 2) := by decide +kernel
theorem dX4_addFolder_28 : decode cX4_addFolder 28 = .ok (.invokespecial 62, 3) := by decide +kernel
theorem dX4_addFolder_31 : decode cX4_addFolder 31 = .ok (.athrow, 1) := by decide +kernel
theorem dX4_addFolder_32 : decode cX4_addFolder 32 = .ok (.aload_n 0, 1) := by decide +kernel
theorem dX4_addFolder_33 : decode cX4_addFolder 33 = .ok (.getfield 19, 3) := by decide +kernel
theorem dX4_addFolder_36 : decode cX4_addFolder 36 = .ok (.new 30, 3) := by decide +kernel
theorem dX4_addFolder_39 : decode cX4_addFolder 39 = .ok (.dup, 1) := by decide +kernel
theorem dX4_addFolder_40 : decode cX4_addFolder 40 = .ok (.aload_n 3, 1) := by decide +kernel
theorem dX4_addFolder_41 : decode cX4_addFolder 41 = .ok (.iload_n 2, 1) := by decide +kernel
theorem dX4_addFolder_42 : decode cX4_addFolder 42 = .ok (.invokespecial 32, 3) := by decide +kernel
theorem dX4_addFolder_45 : decode cX4_addFolder 45 = .ok (.invokevirtual 35, 3) := by decide +kernel
theorem dX4_addFolder_48 : decode cX4_addFolder 48 = .ok (.pop, 1) := by decide +kernel
theorem dX4_addFolder_49 : decode cX4_addFolder 49 = .ok (.aload_n 0, 1) := by decide +kernel
theorem dX4_addFolder_50 : decode cX4_addFolder 50 = .ok (.getfield 19, 3) := by decide +kernel
theorem dX4_addFolder_53 : decode cX4_addFolder 53 = .ok (.invokevirtual 75, 3) := by decide +kernel
theorem dX4_addFolder_56 : decode cX4_addFolder 56 = .ok (.iconst 1, 1) := by decide +kernel
theorem dX4_addFolder_57 : decode cX4_addFolder 57 = .ok (.isub, 1) := by decide +kernel
theorem dX4_addFolder_58 : decode cX4_addFolder 58 = .ok (.ireturn, 1) := by decide +kernel
set_option maxRecDepth 20000 in
theorem ggX4_setOwner_X4_folderAt : GoodIn wsX4_setOwner wsX4_folderAt := goodIn_ca (goodIn_r _ [6, 7, 8, 9, 10, 11, 12, 13, 14, 15, 16, 17, 18, 19, 20, 21, 22, 23, 24, 25, 26, 27, 28, 29, 30, 31, 32, 33, 44, 45, 46, 47, 48, 49] (by decide +kernel) (by decide +kernel)) (goodIn_sub (fun _ h => List.mem_cons_of_mem _ (List.mem_append_right _ h)) (by decide +kernel))
set_option maxRecDepth 20000 in
theorem gX4_setOwner_X4_folderAt : GoodIn wsX4_setOwner (wsV RX4 71 RX4 yX4_folderAt wsX4_folderAt) := goodIn_app (goodIn_of _ (by decide +kernel)) ggX4_setOwner_X4_folderAt
set_option maxRecDepth 20000 in
theorem ggX4_setOwner_X4_refuseNoPerson : GoodIn wsX4_setOwner wsX4_refuseNoPerson := goodIn_ca (goodIn_r _ [36, 7, 8] (by decide +kernel) (by decide +kernel)) (goodIn_sub (fun _ h => List.mem_cons_of_mem _ (List.mem_append_right _ h)) (by decide +kernel))
set_option maxRecDepth 20000 in
theorem gX4_setOwner_X4_refuseNoPerson : GoodIn wsX4_setOwner (va_wsS RX4 43 yX4_refuseNoPerson wsX4_refuseNoPerson) := goodIn_app (goodIn_of _ (by decide +kernel)) ggX4_setOwner_X4_refuseNoPerson
theorem dX4_setOwner_0 : decode cX4_setOwner 0 = .ok (.aload_n 0, 1) := by decide +kernel
theorem dX4_setOwner_1 : decode cX4_setOwner 1 = .ok (.iload_n 1, 1) := by decide +kernel
theorem dX4_setOwner_2 : decode cX4_setOwner 2 = .ok (.invokevirtual 71, 3) := by decide +kernel
theorem dX4_setOwner_5 : decode cX4_setOwner 5 = .ok (.astore_n 3, 1) := by decide +kernel
theorem dX4_setOwner_6 : decode cX4_setOwner 6 = .ok (.iload_n 2, 1) := by decide +kernel
theorem dX4_setOwner_7 : decode cX4_setOwner 7 = .ok (.invokestatic 43, 3) := by decide +kernel
theorem dX4_setOwner_10 : decode cX4_setOwner 10 = .ok (.aload_n 3, 1) := by decide +kernel
theorem dX4_setOwner_11 : decode cX4_setOwner 11 = .ok (.getfield 81, 3) := by decide +kernel
theorem dX4_setOwner_14 : decode cX4_setOwner 14 = .ok (.istore 4, 2) := by decide +kernel
theorem dX4_setOwner_16 : decode cX4_setOwner 16 = .ok (.aload_n 3, 1) := by decide +kernel
theorem dX4_setOwner_17 : decode cX4_setOwner 17 = .ok (.iload_n 2, 1) := by decide +kernel
theorem dX4_setOwner_18 : decode cX4_setOwner 18 = .ok (.putfield 81, 3) := by decide +kernel
theorem dX4_setOwner_21 : decode cX4_setOwner 21 = .ok (.iload 4, 2) := by decide +kernel
theorem dX4_setOwner_23 : decode cX4_setOwner 23 = .ok (.ireturn, 1) := by decide +kernel
set_option maxRecDepth 20000 in
theorem ggX4_setInherits_X4_folderAt : GoodIn wsX4_setInherits wsX4_folderAt := goodIn_ca (goodIn_r _ [6, 7, 8, 9, 10, 11, 12, 13, 14, 15, 16, 17, 18, 19, 20, 21, 22, 23, 24, 25, 26, 27, 28, 29, 30, 31, 32, 33, 41, 42, 43, 44, 45, 46] (by decide +kernel) (by decide +kernel)) (goodIn_sub (fun _ h => List.mem_cons_of_mem _ (List.mem_append_right _ h)) (by decide +kernel))
set_option maxRecDepth 20000 in
theorem gX4_setInherits_X4_folderAt : GoodIn wsX4_setInherits (wsV RX4 71 RX4 yX4_folderAt wsX4_folderAt) := goodIn_app (goodIn_of _ (by decide +kernel)) ggX4_setInherits_X4_folderAt
theorem dX4_setInherits_0 : decode cX4_setInherits 0 = .ok (.aload_n 0, 1) := by decide +kernel
theorem dX4_setInherits_1 : decode cX4_setInherits 1 = .ok (.iload_n 1, 1) := by decide +kernel
theorem dX4_setInherits_2 : decode cX4_setInherits 2 = .ok (.invokevirtual 71, 3) := by decide +kernel
theorem dX4_setInherits_5 : decode cX4_setInherits 5 = .ok (.astore_n 3, 1) := by decide +kernel
theorem dX4_setInherits_6 : decode cX4_setInherits 6 = .ok (.aload_n 3, 1) := by decide +kernel
theorem dX4_setInherits_7 : decode cX4_setInherits 7 = .ok (.getfield 85, 3) := by decide +kernel
theorem dX4_setInherits_10 : decode cX4_setInherits 10 = .ok (.istore 4, 2) := by decide +kernel
theorem dX4_setInherits_12 : decode cX4_setInherits 12 = .ok (.aload_n 3, 1) := by decide +kernel
theorem dX4_setInherits_13 : decode cX4_setInherits 13 = .ok (.iload_n 2, 1) := by decide +kernel
theorem dX4_setInherits_14 : decode cX4_setInherits 14 = .ok (.putfield 85, 3) := by decide +kernel
theorem dX4_setInherits_17 : decode cX4_setInherits 17 = .ok (.iload 4, 2) := by decide +kernel
theorem dX4_setInherits_19 : decode cX4_setInherits 19 = .ok (.ireturn, 1) := by decide +kernel
set_option maxRecDepth 20000 in
theorem ggX4_allow_X4_folderAt : GoodIn wsX4_allow wsX4_folderAt := goodIn_ca (goodIn_r _ [15, 1, 2, 16, 17, 18, 19, 20, 21, 22, 23, 24, 25, 26, 27, 28, 29, 30, 31, 32, 33, 34, 35, 36, 37, 38, 39, 40, 115, 116, 117, 118, 119, 120] (by decide +kernel) (by decide +kernel)) (goodIn_sub (fun _ h => List.mem_cons_of_mem _ (List.mem_append_left _ (List.mem_append_left _ (List.mem_append_right _ h)))) (by decide +kernel))
set_option maxRecDepth 20000 in
theorem gX4_allow_X4_folderAt : GoodIn wsX4_allow (wsV RX4 71 RX4 yX4_folderAt wsX4_folderAt) := goodIn_app (goodIn_of _ (by decide +kernel)) ggX4_allow_X4_folderAt
set_option maxRecDepth 20000 in
theorem ggX4_allow_Jx4a65c_size_8abf5 : GoodIn wsX4_allow wsJx4a65c_size_8abf5 := goodIn_r _ [22, 23, 118, 119, 120] (by decide +kernel) (by decide +kernel)
set_option maxRecDepth 20000 in
theorem gX4_allow_Jx4a65c_size_8abf5 : GoodIn wsX4_allow (wsV RX4 75 RJx4a65c yJx4a65c_size_8abf5 wsJx4a65c_size_8abf5) := goodIn_app (goodIn_of _ (by decide +kernel)) ggX4_allow_Jx4a65c_size_8abf5
set_option maxRecDepth 20000 in
theorem ggX4_allow_X0_init : GoodIn wsX4_allow wsX0_init := goodIn_r _ [43, 44, 45, 46, 47, 48, 49, 50, 111, 112, 113, 114] (by decide +kernel) (by decide +kernel)
set_option maxRecDepth 20000 in
theorem gX4_allow_X0_init : GoodIn wsX4_allow (wsX0_init) := ggX4_allow_X0_init
set_option maxRecDepth 20000 in
theorem ggX4_allow_Jx4a65c_add_9ea2d : GoodIn wsX4_allow wsJx4a65c_add_9ea2d := goodIn_r _ [54, 55, 56, 40, 23, 57, 58, 59, 21, 60, 61, 62, 63, 64, 65, 66, 67, 68, 69, 70, 71, 72, 73, 74, 75, 76, 77, 78, 79, 80, 81, 82, 83, 84, 85, 86, 87, 88, 89, 90, 91, 92, 93, 94, 95, 96, 97, 98, 99, 100, 101, 102, 103, 118, 119, 120] (by decide +kernel) (by decide +kernel)
set_option maxRecDepth 20000 in
theorem gX4_allow_Jx4a65c_add_9ea2d : GoodIn wsX4_allow (wsV RX4 35 RJx4a65c yJx4a65c_add_9ea2d wsJx4a65c_add_9ea2d) := goodIn_app (goodIn_of _ (by decide +kernel)) ggX4_allow_Jx4a65c_add_9ea2d
theorem dX4_allow_0 : decode cX4_allow 0 = .ok (.aload_n 0, 1) := by decide +kernel
theorem dX4_allow_1 : decode cX4_allow 1 = .ok (.iload_n 1, 1) := by decide +kernel
theorem dX4_allow_2 : decode cX4_allow 2 = .ok (.invokevirtual 71, 3) := by decide +kernel
theorem dX4_allow_5 : decode cX4_allow 5 = .ok (.astore 6, 2) := by decide +kernel
theorem dX4_allow_7 : decode cX4_allow 7 = .ok (.iload_n 2, 1) := by decide +kernel
theorem dX4_allow_8 : decode cX4_allow 8 = .ok (.ifCond .lt 9, 3) := by decide +kernel
theorem dX4_allow_11 : decode cX4_allow 11 = .ok (.iload_n 2, 1) := by decide +kernel
theorem dX4_allow_12 : decode cX4_allow 12 = .ok (.bipush 14, 2) := by decide +kernel
theorem dX4_allow_14 : decode cX4_allow 14 = .ok (.if_icmp .lt 13, 3) := by decide +kernel
theorem dX4_allow_17 : decode cX4_allow 17 = .ok (.new 89, 3) := by decide +kernel
theorem dX4_allow_20 : decode cX4_allow 20 = .ok (.dup, 1) := by decide +kernel
theorem dX4_allow_21 : decode cX4_allow 21 = .ok (.ldc 91, 2) := by decide +kernel
theorem dX4_allow_23 : decode cX4_allow 23 = .ok (.invokespecial 93, 3) := by decide +kernel
theorem dX4_allow_26 : decode cX4_allow 26 = .ok (.athrow, 1) := by decide +kernel
theorem dX4_allow_27 : decode cX4_allow 27 = .ok (.iload 4, 2) := by decide +kernel
theorem dX4_allow_29 : decode cX4_allow 29 = .ok (.iconst 1, 1) := by decide +kernel
theorem dX4_allow_30 : decode cX4_allow 30 = .ok (.if_icmp .lt 21, 3) := by decide +kernel
theorem dX4_allow_33 : decode cX4_allow 33 = .ok (.iload 4, 2) := by decide +kernel
theorem dX4_allow_35 : decode cX4_allow 35 = .ok (.bipush 7, 2) := by decide +kernel
theorem dX4_allow_37 : decode cX4_allow 37 = .ok (.if_icmp .gt 14, 3) := by decide +kernel
theorem dX4_allow_40 : decode cX4_allow 40 = .ok (.iload 5, 2) := by decide +kernel
theorem dX4_allow_42 : decode cX4_allow 42 = .ok (.ifCond .lt 9, 3) := by decide +kernel
theorem dX4_allow_45 : decode cX4_allow 45 = .ok (.iload 5, 2) := by decide +kernel
theorem dX4_allow_47 : decode cX4_allow 47 = .ok (.iconst 2, 1) := by decide +kernel
theorem dX4_allow_48 : decode cX4_allow 48 = .ok (.if_icmp .le 13, 3) := by decide +kernel
theorem dX4_allow_51 : decode cX4_allow 51 = .ok (.new 94, 3) := by decide +kernel
theorem dX4_allow_54 : decode cX4_allow 54 = .ok (.dup, 1) := by decide +kernel
theorem dX4_allow_55 : decode cX4_allow 55 = .ok (.ldc 96, 2) := by decide +kernel
theorem dX4_allow_57 : decode cX4_allow 57 = .ok (.invokespecial 98, 3) := by decide +kernel
theorem dX4_allow_60 : decode cX4_allow 60 = .ok (.athrow, 1) := by decide +kernel
theorem dX4_allow_61 : decode cX4_allow 61 = .ok (.aload 6, 2) := by decide +kernel
theorem dX4_allow_63 : decode cX4_allow 63 = .ok (.getfield 99, 3) := by decide +kernel
theorem dX4_allow_66 : decode cX4_allow 66 = .ok (.invokevirtual 75, 3) := by decide +kernel
theorem dX4_allow_69 : decode cX4_allow 69 = .ok (.bipush 6, 2) := by decide +kernel
theorem dX4_allow_71 : decode cX4_allow 71 = .ok (.if_icmp .lt 13, 3) := by decide +kernel
theorem dX4_allow_74 : decode cX4_allow 74 = .ok (.new 58, 3) := by decide +kernel
theorem dX4_allow_77 : decode cX4_allow 77 = .ok (.dup, 1) := by decide +kernel
theorem dX4_allow_78 : decode cX4_allow 78 = .ok (.ldc 102, 2) := by decide +kernel
theorem dX4_allow_80 : decode cX4_allow 80 = .ok (.invokespecial 62, 3) := by decide +kernel
theorem dX4_allow_83 : decode cX4_allow 83 = .ok (.athrow, 1) := by decide +kernel
theorem dX4_allow_84 : decode cX4_allow 84 = .ok (.aload 6, 2) := by decide +kernel
theorem dX4_allow_86 : decode cX4_allow 86 = .ok (.getfield 99, 3) := by decide +kernel
theorem dX4_allow_89 : decode cX4_allow 89 = .ok (.new 104, 3) := by decide +kernel
theorem dX4_allow_92 : decode cX4_allow 92 = .ok (.dup, 1) := by decide +kernel
theorem dX4_allow_93 : decode cX4_allow 93 = .ok (.iload_n 2, 1) := by decide +kernel
theorem dX4_allow_94 : decode cX4_allow 94 = .ok (.iload_n 3, 1) := by decide +kernel
theorem dX4_allow_95 : decode cX4_allow 95 = .ok (.iload 4, 2) := by decide +kernel
theorem dX4_allow_97 : decode cX4_allow 97 = .ok (.iload 5, 2) := by decide +kernel
theorem dX4_allow_99 : decode cX4_allow 99 = .ok (.invokespecial 106, 3) := by decide +kernel
theorem dX4_allow_102 : decode cX4_allow 102 = .ok (.invokevirtual 35, 3) := by decide +kernel
theorem dX4_allow_105 : decode cX4_allow 105 = .ok (.pop, 1) := by decide +kernel
theorem dX4_allow_106 : decode cX4_allow 106 = .ok (.aload 6, 2) := by decide +kernel
theorem dX4_allow_108 : decode cX4_allow 108 = .ok (.getfield 99, 3) := by decide +kernel
theorem dX4_allow_111 : decode cX4_allow 111 = .ok (.invokevirtual 75, 3) := by decide +kernel
theorem dX4_allow_114 : decode cX4_allow 114 = .ok (.ireturn, 1) := by decide +kernel
set_option maxRecDepth 20000 in
theorem ggX4_drop_X4_folderAt : GoodIn wsX4_drop wsX4_folderAt := goodIn_ca (goodIn_r _ [10, 1, 2, 11, 12, 13, 14, 15, 16, 17, 18, 19, 20, 21, 22, 23, 24, 25, 26, 27, 28, 29, 30, 31, 32, 33, 34, 35, 61, 62, 63, 64, 65, 66] (by decide +kernel) (by decide +kernel)) (goodIn_sub (fun _ h => List.mem_cons_of_mem _ (List.mem_append_right _ h)) (by decide +kernel))
set_option maxRecDepth 20000 in
theorem gX4_drop_X4_folderAt : GoodIn wsX4_drop (wsV RX4 71 RX4 yX4_folderAt wsX4_folderAt) := goodIn_app (goodIn_of _ (by decide +kernel)) ggX4_drop_X4_folderAt
set_option maxRecDepth 20000 in
theorem ggX4_drop_Jx4a65c_size_8abf5 : GoodIn wsX4_drop wsJx4a65c_size_8abf5 := goodIn_r _ [17, 18, 64, 65, 66] (by decide +kernel) (by decide +kernel)
set_option maxRecDepth 20000 in
theorem gX4_drop_Jx4a65c_size_8abf5 : GoodIn wsX4_drop (wsV RX4 75 RJx4a65c yJx4a65c_size_8abf5 wsJx4a65c_size_8abf5) := goodIn_app (goodIn_of _ (by decide +kernel)) ggX4_drop_Jx4a65c_size_8abf5
set_option maxRecDepth 20000 in
theorem ggX4_drop_Jx4a65c_remove_915e3 : GoodIn wsX4_drop wsJx4a65c_remove_915e3 := goodIn_r _ [39, 18, 35, 23, 24, 25, 26, 27, 28, 29, 30, 40, 41, 42, 16, 43, 44, 45, 46, 47, 48, 49, 64, 65, 66] (by decide +kernel) (by decide +kernel)
set_option maxRecDepth 20000 in
theorem gX4_drop_Jx4a65c_remove_915e3 : GoodIn wsX4_drop (wsV RX4 111 RJx4a65c yJx4a65c_remove_915e3 wsJx4a65c_remove_915e3) := goodIn_app (goodIn_of _ (by decide +kernel)) ggX4_drop_Jx4a65c_remove_915e3
theorem dX4_drop_0 : decode cX4_drop 0 = .ok (.aload_n 0, 1) := by decide +kernel
theorem dX4_drop_1 : decode cX4_drop 1 = .ok (.iload_n 1, 1) := by decide +kernel
theorem dX4_drop_2 : decode cX4_drop 2 = .ok (.invokevirtual 71, 3) := by decide +kernel
theorem dX4_drop_5 : decode cX4_drop 5 = .ok (.astore_n 3, 1) := by decide +kernel
theorem dX4_drop_6 : decode cX4_drop 6 = .ok (.iload_n 2, 1) := by decide +kernel
theorem dX4_drop_7 : decode cX4_drop 7 = .ok (.ifCond .lt 14, 3) := by decide +kernel
theorem dX4_drop_10 : decode cX4_drop 10 = .ok (.iload_n 2, 1) := by decide +kernel
theorem dX4_drop_11 : decode cX4_drop 11 = .ok (.aload_n 3, 1) := by decide +kernel
theorem dX4_drop_12 : decode cX4_drop 12 = .ok (.getfield 99, 3) := by decide +kernel
theorem dX4_drop_15 : decode cX4_drop 15 = .ok (.invokevirtual 75, 3) := by decide +kernel
theorem dX4_drop_18 : decode cX4_drop 18 = .ok (.if_icmp .lt 13, 3) := by decide +kernel
theorem dX4_drop_21 : decode cX4_drop 21 = .ok (.new 89, 3) := by decide +kernel
theorem dX4_drop_24 : decode cX4_drop 24 = .ok (.dup, 1) := by decide +kernel
theorem dX4_drop_25 : decode cX4_drop 25 = .ok (.ldc 109, 2) := by decide +kernel
theorem dX4_drop_27 : decode cX4_drop 27 = .ok (.invokespecial 93, 3) := by decide +kernel
theorem dX4_drop_30 : decode cX4_drop 30 = .ok (.athrow, 1) := by decide +kernel
theorem dX4_drop_31 : decode cX4_drop 31 = .ok (.aload_n 3, 1) := by decide +kernel
theorem dX4_drop_32 : decode cX4_drop 32 = .ok (.getfield 99, 3) := by decide +kernel
theorem dX4_drop_35 : decode cX4_drop 35 = .ok (.iload_n 2, 1) := by decide +kernel
theorem dX4_drop_36 : decode cX4_drop 36 = .ok (.invokevirtual 111, 3) := by decide +kernel
theorem dX4_drop_39 : decode cX4_drop 39 = .ok (.checkcast 104, 3) := by decide +kernel
theorem dX4_drop_42 : decode cX4_drop 42 = .ok (.getfield 115, 3) := by decide +kernel
theorem dX4_drop_45 : decode cX4_drop 45 = .ok (.ireturn, 1) := by decide +kernel
set_option maxRecDepth 20000 in
theorem ggX4_folders_Jx4a65c_size_8abf5 : GoodIn wsX4_folders wsJx4a65c_size_8abf5 := goodIn_r _ [6, 7, 11, 12, 13] (by decide +kernel) (by decide +kernel)
set_option maxRecDepth 20000 in
theorem gX4_folders_Jx4a65c_size_8abf5 : GoodIn wsX4_folders (wsV RX4 75 RJx4a65c yJx4a65c_size_8abf5 wsJx4a65c_size_8abf5) := goodIn_app (goodIn_of _ (by decide +kernel)) ggX4_folders_Jx4a65c_size_8abf5
theorem dX4_folders_0 : decode cX4_folders 0 = .ok (.aload_n 0, 1) := by decide +kernel
theorem dX4_folders_1 : decode cX4_folders 1 = .ok (.getfield 19, 3) := by decide +kernel
theorem dX4_folders_4 : decode cX4_folders 4 = .ok (.invokevirtual 75, 3) := by decide +kernel
theorem dX4_folders_7 : decode cX4_folders 7 = .ok (.ireturn, 1) := by decide +kernel
set_option maxRecDepth 20000 in
theorem ggX4_rights_X4_refuseNoPerson : GoodIn wsX4_rights wsX4_refuseNoPerson := goodIn_ca (goodIn_r _ [4, 5, 6] (by decide +kernel) (by decide +kernel)) (goodIn_sub (fun _ h => List.mem_cons_of_mem _ (List.mem_append_right _ h)) (by decide +kernel))
set_option maxRecDepth 20000 in
theorem gX4_rights_X4_refuseNoPerson : GoodIn wsX4_rights (va_wsS RX4 43 yX4_refuseNoPerson wsX4_refuseNoPerson) := goodIn_app (goodIn_of _ (by decide +kernel)) ggX4_rights_X4_refuseNoPerson
set_option maxRecDepth 20000 in
theorem ggX4_rights_X4_folderAt : GoodIn wsX4_rights wsX4_folderAt := goodIn_ca (goodIn_r _ [10, 5, 6, 11, 12, 13, 14, 15, 16, 17, 18, 19, 20, 21, 22, 23, 24, 25, 26, 27, 28, 29, 30, 31, 32, 33, 34, 35, 73, 74, 75, 76, 77, 78] (by decide +kernel) (by decide +kernel)) (goodIn_sub (fun _ h => List.mem_cons_of_mem _ (List.mem_append_right _ h)) (by decide +kernel))
set_option maxRecDepth 20000 in
theorem gX4_rights_X4_folderAt : GoodIn wsX4_rights (wsV RX4 71 RX4 yX4_folderAt wsX4_folderAt) := goodIn_app (goodIn_of _ (by decide +kernel)) ggX4_rights_X4_folderAt
set_option maxRecDepth 20000 in
theorem ggX4_rights_X4_rightsByEntries : GoodIn wsX4_rights wsX4_rightsByEntries := goodIn_r _ [39, 40, 41, 42, 43, 44, 13, 14, 15, 16, 17, 18, 19, 20, 21, 22, 23, 24, 25, 26, 27, 28, 29, 30, 31, 32, 33, 34, 35, 45, 46, 47, 48, 49, 50, 51, 52, 53, 3, 54, 55, 56, 57, 58, 59, 60, 61, 62, 63, 64, 65, 66, 67, 68, 69, 70, 71, 72, 79, 80, 81, 82, 83, 84, 85, 86, 87, 88, 89, 76, 77, 78, 73, 74, 75, 90, 91, 92] (by decide +kernel) (by decide +kernel)
set_option maxRecDepth 20000 in
theorem gX4_rights_X4_rightsByEntries : GoodIn wsX4_rights (wsV RX4 118 RX4 yX4_rightsByEntries wsX4_rightsByEntries) := goodIn_app (goodIn_of _ (by decide +kernel)) ggX4_rights_X4_rightsByEntries
theorem dX4_rights_0 : decode cX4_rights 0 = .ok (.iload_n 1, 1) := by decide +kernel
theorem dX4_rights_1 : decode cX4_rights 1 = .ok (.invokestatic 43, 3) := by decide +kernel
theorem dX4_rights_4 : decode cX4_rights 4 = .ok (.aload_n 0, 1) := by decide +kernel
theorem dX4_rights_5 : decode cX4_rights 5 = .ok (.iload_n 1, 1) := by decide +kernel
theorem dX4_rights_6 : decode cX4_rights 6 = .ok (.aload_n 0, 1) := by decide +kernel
theorem dX4_rights_7 : decode cX4_rights 7 = .ok (.iload_n 2, 1) := by decide +kernel
theorem dX4_rights_8 : decode cX4_rights 8 = .ok (.invokevirtual 71, 3) := by decide +kernel
theorem dX4_rights_11 : decode cX4_rights 11 = .ok (.invokevirtual 118, 3) := by decide +kernel
theorem dX4_rights_14 : decode cX4_rights 14 = .ok (.ireturn, 1) := by decide +kernel
set_option maxRecDepth 20000 in
theorem ggX4_rightsBackwards_X4_refuseNoPerson : GoodIn wsX4_rightsBackwards wsX4_refuseNoPerson := goodIn_ca (goodIn_r _ [4, 5, 6] (by decide +kernel) (by decide +kernel)) (goodIn_sub (fun _ h => List.mem_cons_of_mem _ (List.mem_append_right _ h)) (by decide +kernel))
set_option maxRecDepth 20000 in
theorem gX4_rightsBackwards_X4_refuseNoPerson : GoodIn wsX4_rightsBackwards (va_wsS RX4 43 yX4_refuseNoPerson wsX4_refuseNoPerson) := goodIn_app (goodIn_of _ (by decide +kernel)) ggX4_rightsBackwards_X4_refuseNoPerson
set_option maxRecDepth 20000 in
theorem ggX4_rightsBackwards_X4_folderAt : GoodIn wsX4_rightsBackwards wsX4_folderAt := goodIn_ca (goodIn_r _ [10, 5, 6, 11, 12, 13, 14, 15, 16, 17, 18, 19, 20, 21, 22, 23, 24, 25, 26, 27, 28, 29, 30, 31, 32, 33, 34, 35, 81, 82, 83, 84, 85, 86] (by decide +kernel) (by decide +kernel)) (goodIn_sub (fun _ h => List.mem_cons_of_mem _ (List.mem_append_right _ h)) (by decide +kernel))
set_option maxRecDepth 20000 in
theorem gX4_rightsBackwards_X4_folderAt : GoodIn wsX4_rightsBackwards (wsV RX4 71 RX4 yX4_folderAt wsX4_folderAt) := goodIn_app (goodIn_of _ (by decide +kernel)) ggX4_rightsBackwards_X4_folderAt
set_option maxRecDepth 20000 in
theorem ggX4_rightsBackwards_X4_rightsByOverruling : GoodIn wsX4_rightsBackwards wsX4_rightsByOverruling := goodIn_r _ [39, 40, 41, 42, 43, 44, 45, 46, 47, 48, 49, 50, 51, 52, 53, 54, 55, 56, 57, 58, 59, 13, 14, 15, 16, 17, 18, 19, 20, 21, 22, 23, 24, 25, 26, 27, 28, 29, 30, 31, 32, 33, 34, 35, 60, 61, 62, 63, 64, 65, 66, 67, 68, 3, 69, 70, 71, 72, 73, 74, 75, 76, 77, 78, 79, 80, 87, 88, 89, 90, 91, 92, 93, 94, 95, 96, 97, 84, 85, 86, 81, 82, 83, 98, 99, 100] (by decide +kernel) (by decide +kernel)
set_option maxRecDepth 20000 in
theorem gX4_rightsBackwards_X4_rightsByOverruling : GoodIn wsX4_rightsBackwards (wsV RX4 122 RX4 yX4_rightsByOverruling wsX4_rightsByOverruling) := goodIn_app (goodIn_of _ (by decide +kernel)) ggX4_rightsBackwards_X4_rightsByOverruling
theorem dX4_rightsBackwards_0 : decode cX4_rightsBackwards 0 = .ok (.iload_n 1, 1) := by decide +kernel
theorem dX4_rightsBackwards_1 : decode cX4_rightsBackwards 1 = .ok (.invokestatic 43, 3) := by decide +kernel
theorem dX4_rightsBackwards_4 : decode cX4_rightsBackwards 4 = .ok (.aload_n 0, 1) := by decide +kernel
theorem dX4_rightsBackwards_5 : decode cX4_rightsBackwards 5 = .ok (.iload_n 1, 1) := by decide +kernel
theorem dX4_rightsBackwards_6 : decode cX4_rightsBackwards 6 = .ok (.aload_n 0, 1) := by decide +kernel
theorem dX4_rightsBackwards_7 : decode cX4_rightsBackwards 7 = .ok (.iload_n 2, 1) := by decide +kernel
theorem dX4_rightsBackwards_8 : decode cX4_rightsBackwards 8 = .ok (.invokevirtual 71, 3) := by decide +kernel
theorem dX4_rightsBackwards_11 : decode cX4_rightsBackwards 11 = .ok (.invokevirtual 122, 3) := by decide +kernel
theorem dX4_rightsBackwards_14 : decode cX4_rightsBackwards 14 = .ok (.ireturn, 1) := by decide +kernel
set_option maxRecDepth 20000 in
theorem ggX4_groupOf_X4_folderAt : GoodIn wsX4_groupOf wsX4_folderAt := goodIn_ca (goodIn_r _ [6, 7, 8, 9, 10, 11, 12, 13, 14, 15, 16, 17, 18, 19, 20, 21, 22, 23, 24, 25, 26, 27, 28, 29, 30, 31, 32, 33, 128, 129, 130, 131, 132, 133] (by decide +kernel) (by decide +kernel)) (goodIn_sub (fun _ h => List.mem_cons_of_mem _ (List.mem_append_right _ h)) (by decide +kernel))
set_option maxRecDepth 20000 in
theorem gX4_groupOf_X4_folderAt : GoodIn wsX4_groupOf (wsV RX4 71 RX4 yX4_folderAt wsX4_folderAt) := goodIn_app (goodIn_of _ (by decide +kernel)) ggX4_groupOf_X4_folderAt
set_option maxRecDepth 20000 in
theorem ggX4_groupOf_X4_mappingOf : GoodIn wsX4_groupOf wsX4_mappingOf := goodIn_r _ [37, 38, 39, 40, 41, 42, 5, 43, 44, 45, 46, 47, 48, 49, 50, 51, 52, 53, 11, 12, 13, 14, 15, 16, 17, 18, 19, 20, 21, 22, 23, 24, 25, 26, 27, 28, 29, 30, 31, 32, 33, 54, 55, 56, 57, 58, 59, 60, 61, 62, 63, 64, 65, 66, 67, 68, 69, 70, 71, 72, 73, 74, 75, 76, 77, 78, 79, 80, 81, 82, 83, 84, 85, 86, 87, 88, 89, 90, 91, 92, 93, 94, 95, 96, 97, 98, 99, 100, 101, 102, 103, 104, 105, 106, 107, 108, 109, 110, 111, 112, 113, 114, 115, 116, 117, 118, 119, 120, 128, 129, 130, 121, 122, 123, 124, 125, 126, 127, 134, 135, 136, 137, 138, 139, 140, 141, 142, 143, 144, 131, 132, 133, 145, 146, 147] (by decide +kernel) (by decide +kernel)
set_option maxRecDepth 20000 in
theorem gX4_groupOf_X4_mappingOf : GoodIn wsX4_groupOf (wsV RX4 125 RX4 yX4_mappingOf wsX4_mappingOf) := goodIn_app (goodIn_of _ (by decide +kernel)) ggX4_groupOf_X4_mappingOf
theorem dX4_groupOf_0 : decode cX4_groupOf 0 = .ok (.aload_n 0, 1) := by decide +kernel
theorem dX4_groupOf_1 : decode cX4_groupOf 1 = .ok (.aload_n 0, 1) := by decide +kernel
theorem dX4_groupOf_2 : decode cX4_groupOf 2 = .ok (.iload_n 1, 1) := by decide +kernel
theorem dX4_groupOf_3 : decode cX4_groupOf 3 = .ok (.invokevirtual 71, 3) := by decide +kernel
theorem dX4_groupOf_6 : decode cX4_groupOf 6 = .ok (.invokevirtual 125, 3) := by decide +kernel
theorem dX4_groupOf_9 : decode cX4_groupOf 9 = .ok (.getfield 129, 3) := by decide +kernel
theorem dX4_groupOf_12 : decode cX4_groupOf 12 = .ok (.ireturn, 1) := by decide +kernel
set_option maxRecDepth 20000 in
theorem ggX4_bits_X4_folderAt : GoodIn wsX4_bits wsX4_folderAt := goodIn_ca (goodIn_r _ [7, 8, 9, 10, 11, 12, 13, 14, 15, 16, 17, 18, 19, 20, 21, 22, 23, 24, 25, 26, 27, 28, 29, 30, 31, 32, 33, 34, 129, 130, 131, 132, 133, 134] (by decide +kernel) (by decide +kernel)) (goodIn_sub (fun _ h => List.mem_cons_of_mem _ (List.mem_append_right _ h)) (by decide +kernel))
set_option maxRecDepth 20000 in
theorem gX4_bits_X4_folderAt : GoodIn wsX4_bits (wsV RX4 71 RX4 yX4_folderAt wsX4_folderAt) := goodIn_app (goodIn_of _ (by decide +kernel)) ggX4_bits_X4_folderAt
set_option maxRecDepth 20000 in
theorem ggX4_bits_X4_mappingOf : GoodIn wsX4_bits wsX4_mappingOf := goodIn_r _ [38, 39, 40, 41, 42, 43, 6, 44, 45, 46, 47, 48, 49, 50, 51, 52, 53, 54, 12, 13, 14, 15, 16, 17, 18, 19, 20, 21, 22, 23, 24, 25, 26, 27, 28, 29, 30, 31, 32, 33, 34, 55, 56, 57, 58, 59, 60, 61, 62, 63, 64, 65, 66, 67, 68, 69, 70, 71, 72, 73, 74, 75, 76, 77, 78, 79, 80, 81, 82, 83, 84, 85, 86, 87, 88, 89, 90, 91, 92, 93, 94, 95, 96, 97, 98, 99, 100, 101, 102, 103, 104, 105, 106, 107, 108, 109, 110, 111, 112, 113, 114, 115, 116, 117, 118, 119, 120, 121, 129, 130, 131, 122, 123, 124, 125, 126, 127, 128, 135, 136, 137, 138, 139, 140, 141, 142, 143, 144, 145, 132, 133, 134, 146, 147, 148] (by decide +kernel) (by decide +kernel)
set_option maxRecDepth 20000 in
theorem gX4_bits_X4_mappingOf : GoodIn wsX4_bits (wsV RX4 125 RX4 yX4_mappingOf wsX4_mappingOf) := goodIn_app (goodIn_of _ (by decide +kernel)) ggX4_bits_X4_mappingOf
theorem dX4_bits_0 : decode cX4_bits 0 = .ok (.aload_n 0, 1) := by decide +kernel
theorem dX4_bits_1 : decode cX4_bits 1 = .ok (.aload_n 0, 1) := by decide +kernel
theorem dX4_bits_2 : decode cX4_bits 2 = .ok (.iload_n 1, 1) := by decide +kernel
theorem dX4_bits_3 : decode cX4_bits 3 = .ok (.invokevirtual 71, 3) := by decide +kernel
theorem dX4_bits_6 : decode cX4_bits 6 = .ok (.invokevirtual 125, 3) := by decide +kernel
theorem dX4_bits_9 : decode cX4_bits 9 = .ok (.astore_n 2, 1) := by decide +kernel
theorem dX4_bits_10 : decode cX4_bits 10 = .ok (.bipush 10, 2) := by decide +kernel
theorem dX4_bits_12 : decode cX4_bits 12 = .ok (.aload_n 2, 1) := by decide +kernel
theorem dX4_bits_13 : decode cX4_bits 13 = .ok (.getfield 132, 3) := by decide +kernel
theorem dX4_bits_16 : decode cX4_bits 16 = .ok (.imul, 1) := by decide +kernel
theorem dX4_bits_17 : decode cX4_bits 17 = .ok (.aload_n 2, 1) := by decide +kernel
theorem dX4_bits_18 : decode cX4_bits 18 = .ok (.getfield 135, 3) := by decide +kernel
theorem dX4_bits_21 : decode cX4_bits 21 = .ok (.iadd, 1) := by decide +kernel
theorem dX4_bits_22 : decode cX4_bits 22 = .ok (.ireturn, 1) := by decide +kernel
set_option maxRecDepth 20000 in
theorem ggX4_named_X4_folderAt : GoodIn wsX4_named wsX4_folderAt := goodIn_ca (goodIn_r _ [6, 7, 8, 9, 10, 11, 12, 13, 14, 15, 16, 17, 18, 19, 20, 21, 22, 23, 24, 25, 26, 27, 28, 29, 30, 31, 32, 33, 128, 129, 130, 131, 132, 133] (by decide +kernel) (by decide +kernel)) (goodIn_sub (fun _ h => List.mem_cons_of_mem _ (List.mem_append_right _ h)) (by decide +kernel))
set_option maxRecDepth 20000 in
theorem gX4_named_X4_folderAt : GoodIn wsX4_named (wsV RX4 71 RX4 yX4_folderAt wsX4_folderAt) := goodIn_app (goodIn_of _ (by decide +kernel)) ggX4_named_X4_folderAt
set_option maxRecDepth 20000 in
theorem ggX4_named_X4_mappingOf : GoodIn wsX4_named wsX4_mappingOf := goodIn_r _ [37, 38, 39, 40, 41, 42, 5, 43, 44, 45, 46, 47, 48, 49, 50, 51, 52, 53, 11, 12, 13, 14, 15, 16, 17, 18, 19, 20, 21, 22, 23, 24, 25, 26, 27, 28, 29, 30, 31, 32, 33, 54, 55, 56, 57, 58, 59, 60, 61, 62, 63, 64, 65, 66, 67, 68, 69, 70, 71, 72, 73, 74, 75, 76, 77, 78, 79, 80, 81, 82, 83, 84, 85, 86, 87, 88, 89, 90, 91, 92, 93, 94, 95, 96, 97, 98, 99, 100, 101, 102, 103, 104, 105, 106, 107, 108, 109, 110, 111, 112, 113, 114, 115, 116, 117, 118, 119, 120, 128, 129, 130, 121, 122, 123, 124, 125, 126, 127, 134, 135, 136, 137, 138, 139, 140, 141, 142, 143, 144, 131, 132, 133, 145, 146, 147] (by decide +kernel) (by decide +kernel)
set_option maxRecDepth 20000 in
theorem gX4_named_X4_mappingOf : GoodIn wsX4_named (wsV RX4 125 RX4 yX4_mappingOf wsX4_mappingOf) := goodIn_app (goodIn_of _ (by decide +kernel)) ggX4_named_X4_mappingOf
theorem dX4_named_0 : decode cX4_named 0 = .ok (.aload_n 0, 1) := by decide +kernel
theorem dX4_named_1 : decode cX4_named 1 = .ok (.aload_n 0, 1) := by decide +kernel
theorem dX4_named_2 : decode cX4_named 2 = .ok (.iload_n 1, 1) := by decide +kernel
theorem dX4_named_3 : decode cX4_named 3 = .ok (.invokevirtual 71, 3) := by decide +kernel
theorem dX4_named_6 : decode cX4_named 6 = .ok (.invokevirtual 125, 3) := by decide +kernel
theorem dX4_named_9 : decode cX4_named 9 = .ok (.getfield 138, 3) := by decide +kernel
theorem dX4_named_12 : decode cX4_named 12 = .ok (.ireturn, 1) := by decide +kernel
set_option maxRecDepth 20000 in
theorem ggX4_mapped_X4_refuseNoPerson : GoodIn wsX4_mapped wsX4_refuseNoPerson := goodIn_ca (goodIn_r _ [5, 6, 7] (by decide +kernel) (by decide +kernel)) (goodIn_sub (fun _ h => List.mem_cons_of_mem _ (List.mem_append_right _ h)) (by decide +kernel))
set_option maxRecDepth 20000 in
theorem gX4_mapped_X4_refuseNoPerson : GoodIn wsX4_mapped (va_wsS RX4 43 yX4_refuseNoPerson wsX4_refuseNoPerson) := goodIn_app (goodIn_of _ (by decide +kernel)) ggX4_mapped_X4_refuseNoPerson
set_option maxRecDepth 20000 in
theorem ggX4_mapped_X4_folderAt : GoodIn wsX4_mapped wsX4_folderAt := goodIn_ca (goodIn_r _ [11, 6, 7, 12, 13, 14, 15, 16, 17, 18, 19, 20, 21, 22, 23, 24, 25, 26, 27, 28, 29, 30, 31, 32, 33, 34, 35, 36, 131, 132, 133, 134, 135, 136] (by decide +kernel) (by decide +kernel)) (goodIn_sub (fun _ h => List.mem_cons_of_mem _ (List.mem_append_right _ h)) (by decide +kernel))
set_option maxRecDepth 20000 in
theorem gX4_mapped_X4_folderAt : GoodIn wsX4_mapped (wsV RX4 71 RX4 yX4_folderAt wsX4_folderAt) := goodIn_app (goodIn_of _ (by decide +kernel)) ggX4_mapped_X4_folderAt
set_option maxRecDepth 20000 in
theorem ggX4_mapped_X4_mappingOf : GoodIn wsX4_mapped wsX4_mappingOf := goodIn_r _ [40, 41, 42, 43, 44, 45, 4, 46, 47, 48, 49, 50, 51, 52, 53, 54, 55, 56, 14, 15, 16, 17, 18, 19, 20, 21, 22, 23, 24, 25, 26, 27, 28, 29, 30, 31, 32, 33, 34, 35, 36, 57, 58, 59, 60, 61, 62, 63, 64, 65, 66, 67, 68, 69, 70, 71, 72, 73, 74, 75, 76, 77, 78, 79, 80, 81, 82, 83, 84, 85, 86, 87, 88, 89, 90, 91, 92, 93, 94, 95, 96, 97, 98, 99, 100, 101, 102, 103, 104, 105, 106, 107, 108, 109, 110, 111, 112, 113, 114, 115, 116, 117, 118, 119, 120, 121, 122, 123, 131, 132, 133, 124, 125, 126, 127, 128, 129, 130, 137, 138, 139, 140, 141, 142, 143, 144, 145, 146, 147, 134, 135, 136, 148, 149, 150] (by decide +kernel) (by decide +kernel)
set_option maxRecDepth 20000 in
theorem gX4_mapped_X4_mappingOf : GoodIn wsX4_mapped (wsV RX4 125 RX4 yX4_mappingOf wsX4_mappingOf) := goodIn_app (goodIn_of _ (by decide +kernel)) ggX4_mapped_X4_mappingOf
theorem dX4_mapped_0 : decode cX4_mapped 0 = .ok (.iload_n 1, 1) := by decide +kernel
theorem dX4_mapped_1 : decode cX4_mapped 1 = .ok (.invokestatic 43, 3) := by decide +kernel
theorem dX4_mapped_4 : decode cX4_mapped 4 = .ok (.aload_n 0, 1) := by decide +kernel
theorem dX4_mapped_5 : decode cX4_mapped 5 = .ok (.aload_n 0, 1) := by decide +kernel
theorem dX4_mapped_6 : decode cX4_mapped 6 = .ok (.iload_n 2, 1) := by decide +kernel
theorem dX4_mapped_7 : decode cX4_mapped 7 = .ok (.invokevirtual 71, 3) := by decide +kernel
theorem dX4_mapped_10 : decode cX4_mapped 10 = .ok (.invokevirtual 125, 3) := by decide +kernel
theorem dX4_mapped_13 : decode cX4_mapped 13 = .ok (.getfield 141, 3) := by decide +kernel
theorem dX4_mapped_16 : decode cX4_mapped 16 = .ok (.iload_n 1, 1) := by decide +kernel
theorem dX4_mapped_17 : decode cX4_mapped 17 = .ok (.iaload, 1) := by decide +kernel
theorem dX4_mapped_18 : decode cX4_mapped 18 = .ok (.ireturn, 1) := by decide +kernel
set_option maxRecDepth 20000 in
theorem ggX4_loss_X4_folderAt : GoodIn wsX4_loss wsX4_folderAt := goodIn_ca (goodIn_r _ [6, 7, 8, 9, 10, 11, 12, 13, 14, 15, 16, 17, 18, 19, 20, 21, 22, 23, 24, 25, 26, 27, 28, 29, 30, 31, 32, 33, 127, 128, 129, 130, 131, 132] (by decide +kernel) (by decide +kernel)) (goodIn_sub (fun _ h => List.mem_cons_of_mem _ (List.mem_append_right _ h)) (by decide +kernel))
set_option maxRecDepth 20000 in
theorem gX4_loss_X4_folderAt : GoodIn wsX4_loss (wsV RX4 71 RX4 yX4_folderAt wsX4_folderAt) := goodIn_app (goodIn_of _ (by decide +kernel)) ggX4_loss_X4_folderAt
set_option maxRecDepth 20000 in
theorem ggX4_loss_X4_mappingOf : GoodIn wsX4_loss wsX4_mappingOf := goodIn_r _ [37, 38, 1, 39, 40, 41, 5, 42, 43, 44, 45, 46, 47, 48, 49, 50, 51, 52, 11, 12, 13, 14, 15, 16, 17, 18, 19, 20, 21, 22, 23, 24, 25, 26, 27, 28, 29, 30, 31, 32, 33, 53, 54, 55, 56, 57, 58, 59, 60, 61, 62, 63, 64, 65, 66, 67, 68, 69, 70, 71, 72, 73, 74, 75, 76, 77, 78, 79, 80, 81, 82, 83, 84, 85, 86, 87, 88, 89, 90, 91, 92, 93, 94, 95, 96, 97, 98, 99, 100, 101, 102, 103, 104, 105, 106, 107, 108, 109, 110, 111, 112, 113, 114, 115, 116, 117, 118, 119, 127, 128, 129, 120, 121, 122, 123, 124, 125, 126, 133, 134, 135, 136, 137, 138, 139, 140, 141, 142, 143, 130, 131, 132, 144, 145, 146] (by decide +kernel) (by decide +kernel)
set_option maxRecDepth 20000 in
theorem gX4_loss_X4_mappingOf : GoodIn wsX4_loss (wsV RX4 125 RX4 yX4_mappingOf wsX4_mappingOf) := goodIn_app (goodIn_of _ (by decide +kernel)) ggX4_loss_X4_mappingOf
theorem dX4_loss_0 : decode cX4_loss 0 = .ok (.aload_n 0, 1) := by decide +kernel
theorem dX4_loss_1 : decode cX4_loss 1 = .ok (.aload_n 0, 1) := by decide +kernel
theorem dX4_loss_2 : decode cX4_loss 2 = .ok (.iload_n 1, 1) := by decide +kernel
theorem dX4_loss_3 : decode cX4_loss 3 = .ok (.invokevirtual 71, 3) := by decide +kernel
theorem dX4_loss_6 : decode cX4_loss 6 = .ok (.invokevirtual 125, 3) := by decide +kernel
theorem dX4_loss_9 : decode cX4_loss 9 = .ok (.getfield 145, 3) := by decide +kernel
theorem dX4_loss_12 : decode cX4_loss 12 = .ok (.ireturn, 1) := by decide +kernel
set_option maxRecDepth 20000 in
theorem ggX4_lossWith_X4_folderAt : GoodIn wsX4_lossWith wsX4_folderAt := goodIn_ca (goodIn_r _ [7, 8, 9, 10, 11, 12, 13, 14, 15, 16, 17, 18, 19, 20, 21, 22, 23, 24, 25, 26, 27, 28, 29, 30, 31, 32, 33, 34, 119, 120, 121, 129, 130, 131] (by decide +kernel) (by decide +kernel)) (goodIn_sub (fun _ h => List.mem_cons_of_mem _ (List.mem_append_right _ h)) (by decide +kernel))
set_option maxRecDepth 20000 in
theorem gX4_lossWith_X4_folderAt : GoodIn wsX4_lossWith (wsV RX4 71 RX4 yX4_folderAt wsX4_folderAt) := goodIn_app (goodIn_of _ (by decide +kernel)) ggX4_lossWith_X4_folderAt
set_option maxRecDepth 20000 in
theorem ggX4_lossWith_X4_refuseNoGroup : GoodIn wsX4_lossWith wsX4_refuseNoGroup := goodIn_ca (goodIn_r _ [37, 8, 9] (by decide +kernel) (by decide +kernel)) (goodIn_sub (fun _ h => List.mem_cons_of_mem _ (List.mem_append_right _ h)) (by decide +kernel))
set_option maxRecDepth 20000 in
theorem gX4_lossWith_X4_refuseNoGroup : GoodIn wsX4_lossWith (va_wsS RX4 39 yX4_refuseNoGroup wsX4_refuseNoGroup) := goodIn_app (goodIn_of _ (by decide +kernel)) ggX4_lossWith_X4_refuseNoGroup
set_option maxRecDepth 20000 in
theorem ggX4_lossWith_X4_findHeld : GoodIn wsX4_lossWith wsX4_findHeld := goodIn_r _ [41, 1, 42, 43, 44, 45, 6, 46, 47, 48, 49, 50, 51, 12, 13, 14, 15, 16, 17, 18, 19, 20, 21, 22, 23, 24, 25, 26, 27, 28, 29, 30, 31, 32, 33, 34, 52, 53, 54, 55, 56, 57, 58, 59, 60, 61, 62, 63, 64, 65, 66, 67, 68, 69, 70, 71, 72, 73, 74, 75, 76, 77, 78, 79, 119, 120, 121, 122, 123, 124, 125, 126, 127, 128, 132, 133, 134, 135, 136, 137, 138, 139, 140, 141, 142, 129, 130, 131, 143, 144, 145] (by decide +kernel) (by decide +kernel)
set_option maxRecDepth 20000 in
theorem gX4_lossWith_X4_findHeld : GoodIn wsX4_lossWith (wsV RX4 148 RX4 yX4_findHeld wsX4_findHeld) := goodIn_app (goodIn_of _ (by decide +kernel)) ggX4_lossWith_X4_findHeld
set_option maxRecDepth 20000 in
theorem ggX4_lossWith_X4_mapWith : GoodIn wsX4_lossWith wsX4_mapWith := goodIn_r _ [83, 63, 1, 47, 64, 65, 66, 67, 68, 69, 84, 85, 86, 87, 88, 89, 90, 91, 92, 93, 94, 95, 96, 97, 98, 99, 100, 101, 102, 103, 71, 6, 72, 104, 105, 106, 107, 108, 109, 110, 111, 112, 113, 114, 115, 116, 117, 118, 119, 120, 121, 132, 133, 134, 135, 136, 137, 138, 143, 144, 145, 122, 123, 124, 125, 126, 127, 128] (by decide +kernel) (by decide +kernel)
set_option maxRecDepth 20000 in
theorem gX4_lossWith_X4_mapWith : GoodIn wsX4_lossWith (wsV RX4 152 RX4 yX4_mapWith wsX4_mapWith) := goodIn_app (goodIn_of _ (by decide +kernel)) ggX4_lossWith_X4_mapWith
theorem dX4_lossWith_0 : decode cX4_lossWith 0 = .ok (.aload_n 0, 1) := by decide +kernel
theorem dX4_lossWith_1 : decode cX4_lossWith 1 = .ok (.iload_n 1, 1) := by decide +kernel
theorem dX4_lossWith_2 : decode cX4_lossWith 2 = .ok (.invokevirtual 71, 3) := by decide +kernel
theorem dX4_lossWith_5 : decode cX4_lossWith 5 = .ok (.astore_n 3, 1) := by decide +kernel
theorem dX4_lossWith_6 : decode cX4_lossWith 6 = .ok (.iload_n 2, 1) := by decide +kernel
theorem dX4_lossWith_7 : decode cX4_lossWith 7 = .ok (.iconst (-1), 1) := by decide +kernel
theorem dX4_lossWith_8 : decode cX4_lossWith 8 = .ok (.if_icmp .eq 7, 3) := by decide +kernel
theorem dX4_lossWith_11 : decode cX4_lossWith 11 = .ok (.iload_n 2, 1) := by decide +kernel
theorem dX4_lossWith_12 : decode cX4_lossWith 12 = .ok (.invokestatic 39, 3) := by decide +kernel
theorem dX4_lossWith_15 : decode cX4_lossWith 15 = .ok (.aload_n 0, 1) := by decide +kernel
theorem dX4_lossWith_16 : decode cX4_lossWith 16 = .ok (.aload_n 3, 1) := by decide +kernel
theorem dX4_lossWith_17 : decode cX4_lossWith 17 = .ok (.invokevirtual 148, 3) := by decide +kernel
theorem dX4_lossWith_20 : decode cX4_lossWith 20 = .ok (.aload_n 0, 1) := by decide +kernel
theorem dX4_lossWith_21 : decode cX4_lossWith 21 = .ok (.aload_n 3, 1) := by decide +kernel
theorem dX4_lossWith_22 : decode cX4_lossWith 22 = .ok (.iload_n 2, 1) := by decide +kernel
theorem dX4_lossWith_23 : decode cX4_lossWith 23 = .ok (.invokevirtual 152, 3) := by decide +kernel
theorem dX4_lossWith_26 : decode cX4_lossWith 26 = .ok (.aload_n 0, 1) := by decide +kernel
theorem dX4_lossWith_27 : decode cX4_lossWith 27 = .ok (.getfield 26, 3) := by decide +kernel
theorem dX4_lossWith_30 : decode cX4_lossWith 30 = .ok (.getfield 145, 3) := by decide +kernel
theorem dX4_lossWith_33 : decode cX4_lossWith 33 = .ok (.ireturn, 1) := by decide +kernel
set_option maxRecDepth 20000 in
theorem ggX4_pass_Jx4a65c_size_8abf5 : GoodIn wsX4_pass wsJx4a65c_size_8abf5 := goodIn_r _ [8, 9, 139, 140, 141] (by decide +kernel) (by decide +kernel)
set_option maxRecDepth 20000 in
theorem gX4_pass_Jx4a65c_size_8abf5 : GoodIn wsX4_pass (wsV RX4 75 RJx4a65c yJx4a65c_size_8abf5 wsJx4a65c_size_8abf5) := goodIn_app (goodIn_of _ (by decide +kernel)) ggX4_pass_Jx4a65c_size_8abf5
set_option maxRecDepth 20000 in
theorem ggX4_pass_Jx4a65c_get_915e3 : GoodIn wsX4_pass wsJx4a65c_get_915e3 := goodIn_r _ [13, 9, 14, 15, 16, 17, 18, 19, 20, 21, 22, 23, 24, 7, 25, 26, 139, 140, 141] (by decide +kernel) (by decide +kernel)
set_option maxRecDepth 20000 in
theorem gX4_pass_Jx4a65c_get_915e3 : GoodIn wsX4_pass (wsV RX4 155 RJx4a65c yJx4a65c_get_915e3 wsJx4a65c_get_915e3) := goodIn_app (goodIn_of _ (by decide +kernel)) ggX4_pass_Jx4a65c_get_915e3
set_option maxRecDepth 20000 in
theorem ggX4_pass_X4_mappingOf : GoodIn wsX4_pass wsX4_mappingOf := goodIn_r _ [31, 32, 33, 34, 35, 36, 30, 37, 38, 39, 40, 41, 42, 43, 44, 45, 46, 47, 4, 5, 6, 7, 8, 9, 10, 11, 12, 13, 14, 15, 16, 17, 18, 19, 20, 21, 22, 23, 24, 25, 26, 48, 49, 50, 51, 52, 53, 54, 55, 56, 57, 58, 59, 60, 61, 62, 63, 64, 65, 66, 67, 68, 69, 70, 71, 72, 73, 74, 75, 76, 77, 78, 79, 80, 81, 82, 83, 84, 85, 86, 87, 88, 89, 90, 91, 92, 93, 94, 95, 96, 97, 98, 99, 100, 101, 102, 103, 104, 105, 106, 107, 108, 109, 110, 111, 112, 113, 114, 129, 130, 131, 132, 133, 134, 135, 136, 137, 138, 142, 143, 144, 145, 146, 147, 148, 149, 150, 151, 152, 139, 140, 141, 153, 154, 155] (by decide +kernel) (by decide +kernel)
set_option maxRecDepth 20000 in
theorem gX4_pass_X4_mappingOf : GoodIn wsX4_pass (wsV RX4 125 RX4 yX4_mappingOf wsX4_mappingOf) := goodIn_app (goodIn_of _ (by decide +kernel)) ggX4_pass_X4_mappingOf
set_option maxRecDepth 20000 in
theorem ggX4_pass_X1_keep : GoodIn wsX4_pass wsX1_keep := goodIn_r _ [118, 119, 120, 121, 122, 123, 124, 125, 126, 127, 72, 128, 142, 143, 144, 145, 146, 147, 148] (by decide +kernel) (by decide +kernel)
set_option maxRecDepth 20000 in
theorem gX4_pass_X1_keep : GoodIn wsX4_pass (wsV RX4 158 RX1 yX1_keep wsX1_keep) := goodIn_app (goodIn_of _ (by decide +kernel)) ggX4_pass_X1_keep
theorem dX4_pass_0 : decode cX4_pass 0 = .ok (.iconst 0, 1) := by decide +kernel
theorem dX4_pass_1 : decode cX4_pass 1 = .ok (.istore_n 1, 1) := by decide +kernel
theorem dX4_pass_2 : decode cX4_pass 2 = .ok (.iconst 0, 1) := by decide +kernel
theorem dX4_pass_3 : decode cX4_pass 3 = .ok (.istore_n 2, 1) := by decide +kernel
theorem dX4_pass_4 : decode cX4_pass 4 = .ok (.iload_n 2, 1) := by decide +kernel
theorem dX4_pass_5 : decode cX4_pass 5 = .ok (.aload_n 0, 1) := by decide +kernel
theorem dX4_pass_6 : decode cX4_pass 6 = .ok (.getfield 19, 3) := by decide +kernel
theorem dX4_pass_9 : decode cX4_pass 9 = .ok (.invokevirtual 75, 3) := by decide +kernel
theorem dX4_pass_12 : decode cX4_pass 12 = .ok (.if_icmp .ge 39, 3) := by decide +kernel
theorem dX4_pass_15 : decode cX4_pass 15 = .ok (.aload_n 0, 1) := by decide +kernel
theorem dX4_pass_16 : decode cX4_pass 16 = .ok (.getfield 19, 3) := by decide +kernel
theorem dX4_pass_19 : decode cX4_pass 19 = .ok (.iload_n 2, 1) := by decide +kernel
theorem dX4_pass_20 : decode cX4_pass 20 = .ok (.invokevirtual 155, 3) := by decide +kernel
theorem dX4_pass_23 : decode cX4_pass 23 = .ok (.checkcast 30, 3) := by decide +kernel
theorem dX4_pass_26 : decode cX4_pass 26 = .ok (.astore_n 3, 1) := by decide +kernel
theorem dX4_pass_27 : decode cX4_pass 27 = .ok (.aload_n 3, 1) := by decide +kernel
theorem dX4_pass_28 : decode cX4_pass 28 = .ok (.aload_n 0, 1) := by decide +kernel
theorem dX4_pass_29 : decode cX4_pass 29 = .ok (.aload_n 3, 1) := by decide +kernel
theorem dX4_pass_30 : decode cX4_pass 30 = .ok (.invokevirtual 125, 3) := by decide +kernel
theorem dX4_pass_33 : decode cX4_pass 33 = .ok (.getfield 141, 3) := by decide +kernel
theorem dX4_pass_36 : decode cX4_pass 36 = .ok (.invokevirtual 158, 3) := by decide +kernel
theorem dX4_pass_39 : decode cX4_pass 39 = .ok (.ifCond .eq 6, 3) := by decide +kernel
theorem dX4_pass_42 : decode cX4_pass 42 = .ok (.iinc 1 1, 3) := by decide +kernel
theorem dX4_pass_45 : decode cX4_pass 45 = .ok (.iinc 2 1, 3) := by decide +kernel
theorem dX4_pass_48 : decode cX4_pass 48 = .ok (.goto (-44), 3) := by decide +kernel
theorem dX4_pass_51 : decode cX4_pass 51 = .ok (.iload_n 1, 1) := by decide +kernel
theorem dX4_pass_52 : decode cX4_pass 52 = .ok (.ireturn, 1) := by decide +kernel
set_option maxRecDepth 20000 in
theorem ggX4_isFresh_X4_folderAt : GoodIn wsX4_isFresh wsX4_folderAt := goodIn_ca (goodIn_r _ [6, 7, 8, 9, 10, 11, 12, 13, 14, 15, 16, 17, 18, 19, 20, 21, 22, 23, 24, 25, 26, 27, 28, 29, 30, 31, 32, 33, 134, 135, 136, 137, 138, 139] (by decide +kernel) (by decide +kernel)) (goodIn_sub (fun _ h => List.mem_cons_of_mem _ (List.mem_append_right _ h)) (by decide +kernel))
set_option maxRecDepth 20000 in
theorem gX4_isFresh_X4_folderAt : GoodIn wsX4_isFresh (wsV RX4 71 RX4 yX4_folderAt wsX4_folderAt) := goodIn_app (goodIn_of _ (by decide +kernel)) ggX4_isFresh_X4_folderAt
set_option maxRecDepth 20000 in
theorem ggX4_isFresh_X4_mappingOf : GoodIn wsX4_isFresh wsX4_mappingOf := goodIn_r _ [37, 38, 39, 40, 41, 42, 5, 43, 44, 45, 46, 47, 48, 49, 50, 51, 52, 53, 11, 12, 13, 14, 15, 16, 17, 18, 19, 20, 21, 22, 23, 24, 25, 26, 27, 28, 29, 30, 31, 32, 33, 54, 55, 56, 57, 58, 59, 60, 61, 62, 63, 64, 65, 66, 67, 68, 69, 70, 71, 72, 73, 74, 75, 76, 77, 78, 79, 80, 81, 82, 83, 84, 85, 86, 87, 88, 89, 90, 91, 92, 93, 94, 95, 96, 97, 98, 99, 100, 101, 102, 103, 104, 105, 106, 107, 108, 109, 110, 111, 112, 113, 114, 115, 116, 117, 118, 119, 120, 134, 135, 136, 127, 128, 129, 130, 131, 132, 133, 140, 141, 142, 143, 144, 145, 146, 147, 148, 149, 150, 137, 138, 139, 151, 152, 153] (by decide +kernel) (by decide +kernel)
set_option maxRecDepth 20000 in
theorem gX4_isFresh_X4_mappingOf : GoodIn wsX4_isFresh (wsV RX4 125 RX4 yX4_mappingOf wsX4_mappingOf) := goodIn_app (goodIn_of _ (by decide +kernel)) ggX4_isFresh_X4_mappingOf
set_option maxRecDepth 20000 in
theorem ggX4_isFresh_X1_keeps : GoodIn wsX4_isFresh wsX1_keeps := goodIn_r _ [124, 125, 126, 140, 141, 142, 143, 144, 145, 146] (by decide +kernel) (by decide +kernel)
set_option maxRecDepth 20000 in
theorem gX4_isFresh_X1_keeps : GoodIn wsX4_isFresh (wsV RX4 162 RX1 yX1_keeps wsX1_keeps) := goodIn_app (goodIn_of _ (by decide +kernel)) ggX4_isFresh_X1_keeps
theorem dX4_isFresh_0 : decode cX4_isFresh 0 = .ok (.aload_n 0, 1) := by decide +kernel
theorem dX4_isFresh_1 : decode cX4_isFresh 1 = .ok (.iload_n 1, 1) := by decide +kernel
theorem dX4_isFresh_2 : decode cX4_isFresh 2 = .ok (.invokevirtual 71, 3) := by decide +kernel
theorem dX4_isFresh_5 : decode cX4_isFresh 5 = .ok (.astore_n 2, 1) := by decide +kernel
theorem dX4_isFresh_6 : decode cX4_isFresh 6 = .ok (.aload_n 2, 1) := by decide +kernel
theorem dX4_isFresh_7 : decode cX4_isFresh 7 = .ok (.aload_n 0, 1) := by decide +kernel
theorem dX4_isFresh_8 : decode cX4_isFresh 8 = .ok (.aload_n 2, 1) := by decide +kernel
theorem dX4_isFresh_9 : decode cX4_isFresh 9 = .ok (.invokevirtual 125, 3) := by decide +kernel
theorem dX4_isFresh_12 : decode cX4_isFresh 12 = .ok (.getfield 141, 3) := by decide +kernel
theorem dX4_isFresh_15 : decode cX4_isFresh 15 = .ok (.invokevirtual 162, 3) := by decide +kernel
theorem dX4_isFresh_18 : decode cX4_isFresh 18 = .ok (.ireturn, 1) := by decide +kernel
set_option maxRecDepth 20000 in
theorem ggX4_turn_X4_folderAt : GoodIn wsX4_turn wsX4_folderAt := goodIn_ca (goodIn_r _ [9, 10, 11, 12, 13, 14, 15, 16, 17, 18, 19, 20, 21, 22, 23, 24, 25, 26, 27, 28, 29, 30, 31, 32, 33, 34, 35, 36, 44, 45, 46, 47, 48, 49] (by decide +kernel) (by decide +kernel)) (goodIn_sub (fun _ h => List.mem_cons_of_mem _ (List.mem_append_right _ h)) (by decide +kernel))
set_option maxRecDepth 20000 in
theorem gX4_turn_X4_folderAt : GoodIn wsX4_turn (wsV RX4 71 RX4 yX4_folderAt wsX4_folderAt) := goodIn_app (goodIn_of _ (by decide +kernel)) ggX4_turn_X4_folderAt
theorem dX4_turn_0 : decode cX4_turn 0 = .ok (.aload_n 0, 1) := by decide +kernel
theorem dX4_turn_1 : decode cX4_turn 1 = .ok (.iload_n 1, 1) := by decide +kernel
theorem dX4_turn_2 : decode cX4_turn 2 = .ok (.invokevirtual 71, 3) := by decide +kernel
theorem dX4_turn_5 : decode cX4_turn 5 = .ok (.astore_n 2, 1) := by decide +kernel
theorem dX4_turn_6 : decode cX4_turn 6 = .ok (.aload_n 2, 1) := by decide +kernel
theorem dX4_turn_7 : decode cX4_turn 7 = .ok (.getfield 165, 3) := by decide +kernel
theorem dX4_turn_10 : decode cX4_turn 10 = .ok (.ifCond .ne 13, 3) := by decide +kernel
theorem dX4_turn_13 : decode cX4_turn 13 = .ok (.new 58, 3) := by decide +kernel
theorem dX4_turn_16 : decode cX4_turn 16 = .ok (.dup, 1) := by decide +kernel
theorem dX4_turn_17 : decode cX4_turn 17 = .ok (.ldc 168, 2) := by decide +kernel
theorem dX4_turn_19 : decode cX4_turn 19 = .ok (.invokespecial 62, 3) := by decide +kernel
theorem dX4_turn_22 : decode cX4_turn 22 = .ok (.athrow, 1) := by decide +kernel
theorem dX4_turn_23 : decode cX4_turn 23 = .ok (.aload_n 2, 1) := by decide +kernel
theorem dX4_turn_24 : decode cX4_turn 24 = .ok (.aload_n 2, 1) := by decide +kernel
theorem dX4_turn_25 : decode cX4_turn 25 = .ok (.getfield 170, 3) := by decide +kernel
theorem dX4_turn_28 : decode cX4_turn 28 = .ok (.ifCond .ne 7, 3) := by decide +kernel
theorem dX4_turn_31 : decode cX4_turn 31 = .ok (.iconst 1, 1) := by decide +kernel
theorem dX4_turn_32 : decode cX4_turn 32 = .ok (.goto 4, 3) := by decide +kernel
theorem dX4_turn_35 : decode cX4_turn 35 = .ok (.iconst 0, 1) := by decide +kernel
theorem dX4_turn_36 : decode cX4_turn 36 = .ok (.putfield 170, 3) := by decide +kernel
theorem dX4_turn_39 : decode cX4_turn 39 = .ok (.aload_n 2, 1) := by decide +kernel
theorem dX4_turn_40 : decode cX4_turn 40 = .ok (.getfield 170, 3) := by decide +kernel
theorem dX4_turn_43 : decode cX4_turn 43 = .ok (.ireturn, 1) := by decide +kernel
set_option maxRecDepth 20000 in
theorem ggX4_rightsNow_X4_refuseNoPerson : GoodIn wsX4_rightsNow wsX4_refuseNoPerson := goodIn_ca (goodIn_r _ [4, 5, 6] (by decide +kernel) (by decide +kernel)) (goodIn_sub (fun _ h => List.mem_cons_of_mem _ (List.mem_append_right _ h)) (by decide +kernel))
set_option maxRecDepth 20000 in
theorem gX4_rightsNow_X4_refuseNoPerson : GoodIn wsX4_rightsNow (va_wsS RX4 43 yX4_refuseNoPerson wsX4_refuseNoPerson) := goodIn_app (goodIn_of _ (by decide +kernel)) ggX4_rightsNow_X4_refuseNoPerson
set_option maxRecDepth 20000 in
theorem ggX4_rightsNow_X4_folderAt : GoodIn wsX4_rightsNow wsX4_folderAt := goodIn_ca (goodIn_r _ [10, 5, 6, 11, 12, 13, 14, 15, 16, 17, 18, 19, 20, 21, 22, 23, 24, 25, 26, 27, 28, 29, 30, 31, 32, 33, 34, 35, 79, 80, 81, 82, 83, 84] (by decide +kernel) (by decide +kernel)) (goodIn_sub (fun _ h => List.mem_cons_of_mem _ (List.mem_append_right _ h)) (by decide +kernel))
set_option maxRecDepth 20000 in
theorem gX4_rightsNow_X4_folderAt : GoodIn wsX4_rightsNow (wsV RX4 71 RX4 yX4_folderAt wsX4_folderAt) := goodIn_app (goodIn_of _ (by decide +kernel)) ggX4_rightsNow_X4_folderAt
set_option maxRecDepth 20000 in
theorem ggX4_rightsNow_X4_currentRights : GoodIn wsX4_rightsNow wsX4_currentRights := goodIn_r _ [39, 40, 41, 42, 43, 44, 3, 45, 46, 47, 48, 49, 50, 13, 14, 15, 16, 17, 18, 19, 20, 21, 22, 23, 24, 25, 26, 27, 28, 29, 30, 31, 32, 33, 34, 35, 51, 52, 53, 54, 55, 56, 57, 58, 59, 60, 61, 62, 63, 64, 65, 66, 67, 68, 69, 70, 71, 72, 73, 74, 75, 76, 77, 78, 85, 86, 87, 88, 89, 90, 91, 92, 93, 94, 95, 82, 83, 84, 79, 80, 81, 96, 97, 98] (by decide +kernel) (by decide +kernel)
set_option maxRecDepth 20000 in
theorem gX4_rightsNow_X4_currentRights : GoodIn wsX4_rightsNow (wsV RX4 173 RX4 yX4_currentRights wsX4_currentRights) := goodIn_app (goodIn_of _ (by decide +kernel)) ggX4_rightsNow_X4_currentRights
theorem dX4_rightsNow_0 : decode cX4_rightsNow 0 = .ok (.iload_n 1, 1) := by decide +kernel
theorem dX4_rightsNow_1 : decode cX4_rightsNow 1 = .ok (.invokestatic 43, 3) := by decide +kernel
theorem dX4_rightsNow_4 : decode cX4_rightsNow 4 = .ok (.aload_n 0, 1) := by decide +kernel
theorem dX4_rightsNow_5 : decode cX4_rightsNow 5 = .ok (.iload_n 1, 1) := by decide +kernel
theorem dX4_rightsNow_6 : decode cX4_rightsNow 6 = .ok (.aload_n 0, 1) := by decide +kernel
theorem dX4_rightsNow_7 : decode cX4_rightsNow 7 = .ok (.iload_n 2, 1) := by decide +kernel
theorem dX4_rightsNow_8 : decode cX4_rightsNow 8 = .ok (.invokevirtual 71, 3) := by decide +kernel
theorem dX4_rightsNow_11 : decode cX4_rightsNow 11 = .ok (.invokevirtual 173, 3) := by decide +kernel
theorem dX4_rightsNow_14 : decode cX4_rightsNow 14 = .ok (.ireturn, 1) := by decide +kernel
set_option maxRecDepth 20000 in
theorem ggX4_gainers_X4_folderAt : GoodIn wsX4_gainers wsX4_folderAt := goodIn_ca (goodIn_r _ [5, 6, 7, 8, 9, 10, 11, 12, 13, 14, 15, 16, 17, 18, 19, 20, 21, 22, 23, 24, 25, 26, 27, 28, 29, 30, 31, 32, 76, 77, 78, 79, 80, 81] (by decide +kernel) (by decide +kernel)) (goodIn_sub (fun _ h => List.mem_cons_of_mem _ (List.mem_append_right _ h)) (by decide +kernel))
set_option maxRecDepth 20000 in
theorem gX4_gainers_X4_folderAt : GoodIn wsX4_gainers (wsV RX4 71 RX4 yX4_folderAt wsX4_folderAt) := goodIn_app (goodIn_of _ (by decide +kernel)) ggX4_gainers_X4_folderAt
set_option maxRecDepth 20000 in
theorem ggX4_gainers_X4_currentRights : GoodIn wsX4_gainers wsX4_currentRights := goodIn_r _ [36, 37, 38, 39, 40, 41, 4, 42, 43, 44, 45, 46, 47, 10, 11, 12, 13, 14, 15, 16, 17, 18, 19, 20, 21, 22, 23, 24, 25, 26, 27, 28, 29, 30, 31, 32, 48, 49, 50, 51, 52, 53, 54, 55, 56, 57, 58, 59, 60, 61, 62, 63, 64, 65, 66, 67, 68, 69, 70, 71, 72, 73, 74, 75, 82, 83, 84, 85, 86, 87, 88, 89, 90, 91, 92, 79, 80, 81, 76, 77, 78, 93, 94, 95] (by decide +kernel) (by decide +kernel)
set_option maxRecDepth 20000 in
theorem gX4_gainers_X4_currentRights : GoodIn wsX4_gainers (wsV RX4 173 RX4 yX4_currentRights wsX4_currentRights) := goodIn_app (goodIn_of _ (by decide +kernel)) ggX4_gainers_X4_currentRights
set_option maxRecDepth 20000 in
theorem ggX4_gainers_X4_rightsByEntries : GoodIn wsX4_gainers wsX4_rightsByEntries := goodIn_r _ [42, 43, 44, 45, 46, 47, 10, 11, 12, 13, 14, 15, 16, 17, 18, 19, 20, 21, 22, 23, 24, 25, 26, 27, 28, 29, 30, 31, 32, 48, 49, 50, 51, 52, 53, 54, 55, 56, 4, 57, 58, 59, 60, 61, 62, 63, 64, 65, 66, 67, 68, 69, 70, 71, 72, 73, 74, 75, 82, 83, 84, 85, 86, 87, 88, 89, 90, 91, 92, 79, 80, 81, 76, 77, 78, 93, 94, 95] (by decide +kernel) (by decide +kernel)
set_option maxRecDepth 20000 in
theorem gX4_gainers_X4_rightsByEntries : GoodIn wsX4_gainers (wsV RX4 118 RX4 yX4_rightsByEntries wsX4_rightsByEntries) := goodIn_app (goodIn_of _ (by decide +kernel)) ggX4_gainers_X4_rightsByEntries
theorem dX4_gainers_0 : decode cX4_gainers 0 = .ok (.aload_n 0, 1) := by decide +kernel
theorem dX4_gainers_1 : decode cX4_gainers 1 = .ok (.iload_n 1, 1) := by decide +kernel
theorem dX4_gainers_2 : decode cX4_gainers 2 = .ok (.invokevirtual 71, 3) := by decide +kernel
theorem dX4_gainers_5 : decode cX4_gainers 5 = .ok (.astore_n 2, 1) := by decide +kernel
theorem dX4_gainers_6 : decode cX4_gainers 6 = .ok (.iconst 0, 1) := by decide +kernel
theorem dX4_gainers_7 : decode cX4_gainers 7 = .ok (.istore_n 3, 1) := by decide +kernel
theorem dX4_gainers_8 : decode cX4_gainers 8 = .ok (.iconst 0, 1) := by decide +kernel
theorem dX4_gainers_9 : decode cX4_gainers 9 = .ok (.istore 4, 2) := by decide +kernel
theorem dX4_gainers_11 : decode cX4_gainers 11 = .ok (.iload 4, 2) := by decide +kernel
theorem dX4_gainers_13 : decode cX4_gainers 13 = .ok (.bipush 8, 2) := by decide +kernel
theorem dX4_gainers_15 : decode cX4_gainers 15 = .ok (.if_icmp .ge 36, 3) := by decide +kernel
theorem dX4_gainers_18 : decode cX4_gainers 18 = .ok (.aload_n 0, 1) := by decide +kernel
theorem dX4_gainers_19 : decode cX4_gainers 19 = .ok (.iload 4, 2) := by decide +kernel
theorem dX4_gainers_21 : decode cX4_gainers 21 = .ok (.aload_n 2, 1) := by decide +kernel
theorem dX4_gainers_22 : decode cX4_gainers 22 = .ok (.invokevirtual 173, 3) := by decide +kernel
theorem dX4_gainers_25 : decode cX4_gainers 25 = .ok (.aload_n 0, 1) := by decide +kernel
theorem dX4_gainers_26 : decode cX4_gainers 26 = .ok (.iload 4, 2) := by decide +kernel
theorem dX4_gainers_28 : decode cX4_gainers 28 = .ok (.aload_n 2, 1) := by decide +kernel
theorem dX4_gainers_29 : decode cX4_gainers 29 = .ok (.invokevirtual 118, 3) := by decide +kernel
theorem dX4_gainers_32 : decode cX4_gainers 32 = .ok (.iconst (-1), 1) := by decide +kernel
theorem dX4_gainers_33 : decode cX4_gainers 33 = .ok (.ixor, 1) := by decide +kernel
theorem dX4_gainers_34 : decode cX4_gainers 34 = .ok (.iand, 1) := by decide +kernel
theorem dX4_gainers_35 : decode cX4_gainers 35 = .ok (.ifCond .eq 10, 3) := by decide +kernel
theorem dX4_gainers_38 : decode cX4_gainers 38 = .ok (.iload_n 3, 1) := by decide +kernel
theorem dX4_gainers_39 : decode cX4_gainers 39 = .ok (.iconst 1, 1) := by decide +kernel
theorem dX4_gainers_40 : decode cX4_gainers 40 = .ok (.iload 4, 2) := by decide +kernel
theorem dX4_gainers_42 : decode cX4_gainers 42 = .ok (.ishl, 1) := by decide +kernel
theorem dX4_gainers_43 : decode cX4_gainers 43 = .ok (.ior, 1) := by decide +kernel
theorem dX4_gainers_44 : decode cX4_gainers 44 = .ok (.istore_n 3, 1) := by decide +kernel
theorem dX4_gainers_45 : decode cX4_gainers 45 = .ok (.iinc 4 1, 3) := by decide +kernel
theorem dX4_gainers_48 : decode cX4_gainers 48 = .ok (.goto (-37), 3) := by decide +kernel
theorem dX4_gainers_51 : decode cX4_gainers 51 = .ok (.iload_n 3, 1) := by decide +kernel
theorem dX4_gainers_52 : decode cX4_gainers 52 = .ok (.ireturn, 1) := by decide +kernel
theorem dX4_refuseNoPerson_0 : decode cX4_refuseNoPerson 0 = .ok (.iload_n 0, 1) := by decide +kernel
theorem dX4_refuseNoPerson_1 : decode cX4_refuseNoPerson 1 = .ok (.ifCond .lt 9, 3) := by decide +kernel
theorem dX4_refuseNoPerson_4 : decode cX4_refuseNoPerson 4 = .ok (.iload_n 0, 1) := by decide +kernel
theorem dX4_refuseNoPerson_5 : decode cX4_refuseNoPerson 5 = .ok (.bipush 8, 2) := by decide +kernel
theorem dX4_refuseNoPerson_7 : decode cX4_refuseNoPerson 7 = .ok (.if_icmp .lt 13, 3) := by decide +kernel
theorem dX4_refuseNoPerson_10 : decode cX4_refuseNoPerson 10 = .ok (.new 89, 3) := by decide +kernel
theorem dX4_refuseNoPerson_13 : decode cX4_refuseNoPerson 13 = .ok (.dup, 1) := by decide +kernel
theorem dX4_refuseNoPerson_14 : decode cX4_refuseNoPerson 14 = .ok (.ldc 176, 2) := by decide +kernel
theorem dX4_refuseNoPerson_16 : decode cX4_refuseNoPerson 16 = .ok (.invokespecial 93, 3) := by decide +kernel
theorem dX4_refuseNoPerson_19 : decode cX4_refuseNoPerson 19 = .ok (.athrow, 1) := by decide +kernel
theorem dX4_refuseNoPerson_20 : decode cX4_refuseNoPerson 20 = .ok (.return_, 1) := by decide +kernel
theorem dX4_refuseNoGroup_0 : decode cX4_refuseNoGroup 0 = .ok (.iload_n 0, 1) := by decide +kernel
theorem dX4_refuseNoGroup_1 : decode cX4_refuseNoGroup 1 = .ok (.ifCond .lt 9, 3) := by decide +kernel
theorem dX4_refuseNoGroup_4 : decode cX4_refuseNoGroup 4 = .ok (.iload_n 0, 1) := by decide +kernel
theorem dX4_refuseNoGroup_5 : decode cX4_refuseNoGroup 5 = .ok (.bipush 6, 2) := by decide +kernel
theorem dX4_refuseNoGroup_7 : decode cX4_refuseNoGroup 7 = .ok (.if_icmp .lt 13, 3) := by decide +kernel
theorem dX4_refuseNoGroup_10 : decode cX4_refuseNoGroup 10 = .ok (.new 89, 3) := by decide +kernel
theorem dX4_refuseNoGroup_13 : decode cX4_refuseNoGroup 13 = .ok (.dup, 1) := by decide +kernel
theorem dX4_refuseNoGroup_14 : decode cX4_refuseNoGroup 14 = .ok (.ldc 178, 2) := by decide +kernel
theorem dX4_refuseNoGroup_16 : decode cX4_refuseNoGroup 16 = .ok (.invokespecial 93, 3) := by decide +kernel
theorem dX4_refuseNoGroup_19 : decode cX4_refuseNoGroup 19 = .ok (.athrow, 1) := by decide +kernel
theorem dX4_refuseNoGroup_20 : decode cX4_refuseNoGroup 20 = .ok (.return_, 1) := by decide +kernel
set_option maxRecDepth 20000 in
theorem ggX4_folderAt_Jx4a65c_size_8abf5 : GoodIn wsX4_folderAt wsJx4a65c_size_8abf5 := goodIn_r _ [9, 10, 31, 32, 33] (by decide +kernel) (by decide +kernel)
set_option maxRecDepth 20000 in
theorem gX4_folderAt_Jx4a65c_size_8abf5 : GoodIn wsX4_folderAt (wsV RX4 75 RJx4a65c yJx4a65c_size_8abf5 wsJx4a65c_size_8abf5) := goodIn_app (goodIn_of _ (by decide +kernel)) ggX4_folderAt_Jx4a65c_size_8abf5
set_option maxRecDepth 20000 in
theorem ggX4_folderAt_Jx4a65c_get_915e3 : GoodIn wsX4_folderAt wsJx4a65c_get_915e3 := goodIn_r _ [14, 10, 15, 16, 17, 18, 19, 20, 21, 22, 23, 24, 25, 8, 26, 27, 31, 32, 33] (by decide +kernel) (by decide +kernel)
set_option maxRecDepth 20000 in
theorem gX4_folderAt_Jx4a65c_get_915e3 : GoodIn wsX4_folderAt (wsV RX4 155 RJx4a65c yJx4a65c_get_915e3 wsJx4a65c_get_915e3) := goodIn_app (goodIn_of _ (by decide +kernel)) ggX4_folderAt_Jx4a65c_get_915e3
theorem dX4_folderAt_0 : decode cX4_folderAt 0 = .ok (.iload_n 1, 1) := by decide +kernel
theorem dX4_folderAt_1 : decode cX4_folderAt 1 = .ok (.ifCond .lt 14, 3) := by decide +kernel
theorem dX4_folderAt_4 : decode cX4_folderAt 4 = .ok (.iload_n 1, 1) := by decide +kernel
theorem dX4_folderAt_5 : decode cX4_folderAt 5 = .ok (.aload_n 0, 1) := by decide +kernel
theorem dX4_folderAt_6 : decode cX4_folderAt 6 = .ok (.getfield 19, 3) := by decide +kernel
theorem dX4_folderAt_9 : decode cX4_folderAt 9 = .ok (.invokevirtual 75, 3) := by decide +kernel
theorem dX4_folderAt_12 : decode cX4_folderAt 12 = .ok (.if_icmp .lt 13, 3) := by decide +kernel
theorem dX4_folderAt_15 : decode cX4_folderAt 15 = .ok (.new 89, 3) := by decide +kernel
theorem dX4_folderAt_18 : decode cX4_folderAt 18 = .ok (.dup, 1) := by decide +kernel
theorem dX4_folderAt_19 : decode cX4_folderAt 19 = .ok (.ldc 180, 2) := by decide +kernel
theorem dX4_folderAt_21 : decode cX4_folderAt 21 = .ok (.invokespecial 93, 3) := by decide +kernel
theorem dX4_folderAt_24 : decode cX4_folderAt 24 = .ok (.athrow, 1) := by decide +kernel
theorem dX4_folderAt_25 : decode cX4_folderAt 25 = .ok (.aload_n 0, 1) := by decide +kernel
theorem dX4_folderAt_26 : decode cX4_folderAt 26 = .ok (.getfield 19, 3) := by decide +kernel
theorem dX4_folderAt_29 : decode cX4_folderAt 29 = .ok (.iload_n 1, 1) := by decide +kernel
theorem dX4_folderAt_30 : decode cX4_folderAt 30 = .ok (.invokevirtual 155, 3) := by decide +kernel
theorem dX4_folderAt_33 : decode cX4_folderAt 33 = .ok (.checkcast 30, 3) := by decide +kernel
theorem dX4_folderAt_36 : decode cX4_folderAt 36 = .ok (.areturn, 1) := by decide +kernel
theorem dX4_contains_0 : decode cX4_contains 0 = .ok (.iload_n 0, 1) := by decide +kernel
theorem dX4_contains_1 : decode cX4_contains 1 = .ok (.iload_n 1, 1) := by decide +kernel
theorem dX4_contains_2 : decode cX4_contains 2 = .ok (.ishr, 1) := by decide +kernel
theorem dX4_contains_3 : decode cX4_contains 3 = .ok (.iconst 1, 1) := by decide +kernel
theorem dX4_contains_4 : decode cX4_contains 4 = .ok (.iand, 1) := by decide +kernel
theorem dX4_contains_5 : decode cX4_contains 5 = .ok (.ifCond .eq 7, 3) := by decide +kernel
theorem dX4_contains_8 : decode cX4_contains 8 = .ok (.iconst 1, 1) := by decide +kernel
theorem dX4_contains_9 : decode cX4_contains 9 = .ok (.goto 4, 3) := by decide +kernel
theorem dX4_contains_12 : decode cX4_contains 12 = .ok (.iconst 0, 1) := by decide +kernel
theorem dX4_contains_13 : decode cX4_contains 13 = .ok (.ireturn, 1) := by decide +kernel
set_option maxRecDepth 20000 in
theorem ggX4_isFor_X2_everyoneIn : GoodIn wsX4_isFor wsX2_everyoneIn := goodIn_r _ [7, 8, 20, 21, 22] (by decide +kernel) (by decide +kernel)
set_option maxRecDepth 20000 in
theorem gX4_isFor_X2_everyoneIn : GoodIn wsX4_isFor (wsV RX4 68 RX2 yX2_everyoneIn wsX2_everyoneIn) := goodIn_app (goodIn_of _ (by decide +kernel)) ggX4_isFor_X2_everyoneIn
set_option maxRecDepth 20000 in
theorem ggX4_isFor_X4_contains : GoodIn wsX4_isFor wsX4_contains := goodIn_r _ [12] (by decide +kernel) (by decide +kernel)
set_option maxRecDepth 20000 in
theorem gX4_isFor_X4_contains : GoodIn wsX4_isFor (va_wsS RX4 54 yX4_contains wsX4_contains) := goodIn_app (goodIn_of _ (by decide +kernel)) ggX4_isFor_X4_contains
theorem dX4_isFor_0 : decode cX4_isFor 0 = .ok (.aload_n 1, 1) := by decide +kernel
theorem dX4_isFor_1 : decode cX4_isFor 1 = .ok (.getfield 182, 3) := by decide +kernel
theorem dX4_isFor_4 : decode cX4_isFor 4 = .ok (.bipush 8, 2) := by decide +kernel
theorem dX4_isFor_6 : decode cX4_isFor 6 = .ok (.if_icmp .ge 17, 3) := by decide +kernel
theorem dX4_isFor_9 : decode cX4_isFor 9 = .ok (.aload_n 1, 1) := by decide +kernel
theorem dX4_isFor_10 : decode cX4_isFor 10 = .ok (.getfield 182, 3) := by decide +kernel
theorem dX4_isFor_13 : decode cX4_isFor 13 = .ok (.iload_n 2, 1) := by decide +kernel
theorem dX4_isFor_14 : decode cX4_isFor 14 = .ok (.if_icmp .ne 7, 3) := by decide +kernel
theorem dX4_isFor_17 : decode cX4_isFor 17 = .ok (.iconst 1, 1) := by decide +kernel
theorem dX4_isFor_18 : decode cX4_isFor 18 = .ok (.goto 4, 3) := by decide +kernel
theorem dX4_isFor_21 : decode cX4_isFor 21 = .ok (.iconst 0, 1) := by decide +kernel
theorem dX4_isFor_22 : decode cX4_isFor 22 = .ok (.ireturn, 1) := by decide +kernel
theorem dX4_isFor_23 : decode cX4_isFor 23 = .ok (.aload_n 0, 1) := by decide +kernel
theorem dX4_isFor_24 : decode cX4_isFor 24 = .ok (.getfield 12, 3) := by decide +kernel
theorem dX4_isFor_27 : decode cX4_isFor 27 = .ok (.aload_n 1, 1) := by decide +kernel
theorem dX4_isFor_28 : decode cX4_isFor 28 = .ok (.getfield 182, 3) := by decide +kernel
theorem dX4_isFor_31 : decode cX4_isFor 31 = .ok (.bipush 8, 2) := by decide +kernel
theorem dX4_isFor_33 : decode cX4_isFor 33 = .ok (.isub, 1) := by decide +kernel
theorem dX4_isFor_34 : decode cX4_isFor 34 = .ok (.invokevirtual 68, 3) := by decide +kernel
theorem dX4_isFor_37 : decode cX4_isFor 37 = .ok (.iload_n 2, 1) := by decide +kernel
theorem dX4_isFor_38 : decode cX4_isFor 38 = .ok (.invokestatic 54, 3) := by decide +kernel
theorem dX4_isFor_41 : decode cX4_isFor 41 = .ok (.ireturn, 1) := by decide +kernel
set_option maxRecDepth 20000 in
theorem ggX4_rightsByEntries_Jx4a65c_size_8abf5 : GoodIn wsX4_rightsByEntries wsJx4a65c_size_8abf5 := goodIn_r _ [10, 11, 69, 70, 71] (by decide +kernel) (by decide +kernel)
set_option maxRecDepth 20000 in
theorem gX4_rightsByEntries_Jx4a65c_size_8abf5 : GoodIn wsX4_rightsByEntries (wsV RX4 75 RJx4a65c yJx4a65c_size_8abf5 wsJx4a65c_size_8abf5) := goodIn_app (goodIn_of _ (by decide +kernel)) ggX4_rightsByEntries_Jx4a65c_size_8abf5
set_option maxRecDepth 20000 in
theorem ggX4_rightsByEntries_Jx4a65c_get_915e3 : GoodIn wsX4_rightsByEntries wsJx4a65c_get_915e3 := goodIn_r _ [15, 11, 16, 17, 18, 19, 20, 21, 22, 23, 24, 25, 26, 9, 27, 28, 69, 70, 71] (by decide +kernel) (by decide +kernel)
set_option maxRecDepth 20000 in
theorem gX4_rightsByEntries_Jx4a65c_get_915e3 : GoodIn wsX4_rightsByEntries (wsV RX4 155 RJx4a65c yJx4a65c_get_915e3 wsJx4a65c_get_915e3) := goodIn_app (goodIn_of _ (by decide +kernel)) ggX4_rightsByEntries_Jx4a65c_get_915e3
set_option maxRecDepth 20000 in
theorem ggX4_rightsByEntries_X0_counts : GoodIn wsX4_rightsByEntries wsX0_counts := goodIn_r _ [33, 34, 65, 66, 67, 68] (by decide +kernel) (by decide +kernel)
set_option maxRecDepth 20000 in
theorem gX4_rightsByEntries_X0_counts : GoodIn wsX4_rightsByEntries (wsV RX4 185 RX0 yX0_counts wsX0_counts) := goodIn_app (goodIn_of _ (by decide +kernel)) ggX4_rightsByEntries_X0_counts
set_option maxRecDepth 20000 in
theorem ggX4_rightsByEntries_X4_isFor : GoodIn wsX4_rightsByEntries wsX4_isFor := goodIn_r _ [39, 40, 41, 42, 43, 44, 45, 46, 47, 48, 49, 38, 50, 65, 66, 67, 68, 72, 73, 74, 75, 76, 77] (by decide +kernel) (by decide +kernel)
set_option maxRecDepth 20000 in
theorem gX4_rightsByEntries_X4_isFor : GoodIn wsX4_rightsByEntries (wsV RX4 189 RX4 yX4_isFor wsX4_isFor) := goodIn_app (goodIn_of _ (by decide +kernel)) ggX4_rightsByEntries_X4_isFor
set_option maxRecDepth 20000 in
theorem ggX4_rightsByEntries_X1_inheritsFrom : GoodIn wsX4_rightsByEntries wsX1_inheritsFrom := goodIn_r _ [55, 56, 57, 58, 59, 60, 61, 62, 63, 64] (by decide +kernel) (by decide +kernel)
set_option maxRecDepth 20000 in
theorem gX4_rightsByEntries_X1_inheritsFrom : GoodIn wsX4_rightsByEntries (wsV RX4 196 RX1 yX1_inheritsFrom wsX1_inheritsFrom) := goodIn_app (goodIn_of _ (by decide +kernel)) ggX4_rightsByEntries_X1_inheritsFrom
theorem dX4_rightsByEntries_0 : decode cX4_rightsByEntries 0 = .ok (.iload_n 1, 1) := by decide +kernel
theorem dX4_rightsByEntries_1 : decode cX4_rightsByEntries 1 = .ok (.aload_n 2, 1) := by decide +kernel
theorem dX4_rightsByEntries_2 : decode cX4_rightsByEntries 2 = .ok (.getfield 81, 3) := by decide +kernel
theorem dX4_rightsByEntries_5 : decode cX4_rightsByEntries 5 = .ok (.if_icmp .ne 6, 3) := by decide +kernel
theorem dX4_rightsByEntries_8 : decode cX4_rightsByEntries 8 = .ok (.bipush 7, 2) := by decide +kernel
theorem dX4_rightsByEntries_10 : decode cX4_rightsByEntries 10 = .ok (.ireturn, 1) := by decide +kernel
theorem dX4_rightsByEntries_11 : decode cX4_rightsByEntries 11 = .ok (.bipush 7, 2) := by decide +kernel
theorem dX4_rightsByEntries_13 : decode cX4_rightsByEntries 13 = .ok (.istore_n 3, 1) := by decide +kernel
theorem dX4_rightsByEntries_14 : decode cX4_rightsByEntries 14 = .ok (.iconst 0, 1) := by decide +kernel
theorem dX4_rightsByEntries_15 : decode cX4_rightsByEntries 15 = .ok (.istore 4, 2) := by decide +kernel
theorem dX4_rightsByEntries_17 : decode cX4_rightsByEntries 17 = .ok (.aload_n 2, 1) := by decide +kernel
theorem dX4_rightsByEntries_18 : decode cX4_rightsByEntries 18 = .ok (.astore 5, 2) := by decide +kernel
theorem dX4_rightsByEntries_20 : decode cX4_rightsByEntries 20 = .ok (.aload 5, 2) := by decide +kernel
theorem dX4_rightsByEntries_22 : decode cX4_rightsByEntries 22 = .ok (.ifnull 109, 3) := by decide +kernel
theorem dX4_rightsByEntries_25 : decode cX4_rightsByEntries 25 = .ok (.iconst 0, 1) := by decide +kernel
theorem dX4_rightsByEntries_26 : decode cX4_rightsByEntries 26 = .ok (.istore 6, 2) := by decide +kernel
theorem dX4_rightsByEntries_28 : decode cX4_rightsByEntries 28 = .ok (.iload 6, 2) := by decide +kernel
theorem dX4_rightsByEntries_30 : decode cX4_rightsByEntries 30 = .ok (.aload 5, 2) := by decide +kernel
theorem dX4_rightsByEntries_32 : decode cX4_rightsByEntries 32 = .ok (.getfield 99, 3) := by decide +kernel
theorem dX4_rightsByEntries_35 : decode cX4_rightsByEntries 35 = .ok (.invokevirtual 75, 3) := by decide +kernel
theorem dX4_rightsByEntries_38 : decode cX4_rightsByEntries 38 = .ok (.if_icmp .ge 83, 3) := by decide +kernel
theorem dX4_rightsByEntries_41 : decode cX4_rightsByEntries 41 = .ok (.aload 5, 2) := by decide +kernel
theorem dX4_rightsByEntries_43 : decode cX4_rightsByEntries 43 = .ok (.getfield 99, 3) := by decide +kernel
theorem dX4_rightsByEntries_46 : decode cX4_rightsByEntries 46 = .ok (.iload 6, 2) := by decide +kernel
theorem dX4_rightsByEntries_48 : decode cX4_rightsByEntries 48 = .ok (.invokevirtual 155, 3) := by decide +kernel
theorem dX4_rightsByEntries_51 : decode cX4_rightsByEntries 51 = .ok (.checkcast 104, 3) := by decide +kernel
theorem dX4_rightsByEntries_54 : decode cX4_rightsByEntries 54 = .ok (.astore 7, 2) := by decide +kernel
theorem dX4_rightsByEntries_56 : decode cX4_rightsByEntries 56 = .ok (.aload 7, 2) := by decide +kernel
theorem dX4_rightsByEntries_58 : decode cX4_rightsByEntries 58 = .ok (.aload 5, 2) := by decide +kernel
theorem dX4_rightsByEntries_60 : decode cX4_rightsByEntries 60 = .ok (.aload_n 2, 1) := by decide +kernel
theorem dX4_rightsByEntries_61 : decode cX4_rightsByEntries 61 = .ok (.if_acmp .ne 7, 3) := by decide +kernel
theorem dX4_rightsByEntries_64 : decode cX4_rightsByEntries 64 = .ok (.iconst 1, 1) := by decide +kernel
theorem dX4_rightsByEntries_65 : decode cX4_rightsByEntries 65 = .ok (.goto 4, 3) := by decide +kernel
theorem dX4_rightsByEntries_68 : decode cX4_rightsByEntries 68 = .ok (.iconst 0, 1) := by decide +kernel
theorem dX4_rightsByEntries_69 : decode cX4_rightsByEntries 69 = .ok (.invokevirtual 185, 3) := by decide +kernel
theorem dX4_rightsByEntries_72 : decode cX4_rightsByEntries 72 = .ok (.ifCond .eq 43, 3) := by decide +kernel
theorem dX4_rightsByEntries_75 : decode cX4_rightsByEntries 75 = .ok (.aload_n 0, 1) := by decide +kernel
theorem dX4_rightsByEntries_76 : decode cX4_rightsByEntries 76 = .ok (.aload 7, 2) := by decide +kernel
theorem dX4_rightsByEntries_78 : decode cX4_rightsByEntries 78 = .ok (.iload_n 1, 1) := by decide +kernel
theorem dX4_rightsByEntries_79 : decode cX4_rightsByEntries 79 = .ok (.invokevirtual 189, 3) := by decide +kernel
theorem dX4_rightsByEntries_82 : decode cX4_rightsByEntries 82 = .ok (.ifCond .eq 33, 3) := by decide +kernel
theorem dX4_rightsByEntries_85 : decode cX4_rightsByEntries 85 = .ok (.aload 7, 2) := by decide +kernel
theorem dX4_rightsByEntries_87 : decode cX4_rightsByEntries 87 = .ok (.getfield 193, 3) := by decide +kernel
theorem dX4_rightsByEntries_90 : decode cX4_rightsByEntries 90 = .ok (.ifCond .eq 15, 3) := by decide +kernel
theorem dX4_rightsByEntries_93 : decode cX4_rightsByEntries 93 = .ok (.iload 4, 2) := by decide +kernel
theorem dX4_rightsByEntries_95 : decode cX4_rightsByEntries 95 = .ok (.aload 7, 2) := by decide +kernel
theorem dX4_rightsByEntries_97 : decode cX4_rightsByEntries 97 = .ok (.getfield 115, 3) := by decide +kernel
theorem dX4_rightsByEntries_100 : decode cX4_rightsByEntries 100 = .ok (.iload_n 3, 1) := by decide +kernel
theorem dX4_rightsByEntries_101 : decode cX4_rightsByEntries 101 = .ok (.iand, 1) := by decide +kernel
theorem dX4_rightsByEntries_102 : decode cX4_rightsByEntries 102 = .ok (.ior, 1) := by decide +kernel
theorem dX4_rightsByEntries_103 : decode cX4_rightsByEntries 103 = .ok (.istore 4, 2) := by decide +kernel
theorem dX4_rightsByEntries_105 : decode cX4_rightsByEntries 105 = .ok (.iload_n 3, 1) := by decide +kernel
theorem dX4_rightsByEntries_106 : decode cX4_rightsByEntries 106 = .ok (.aload 7, 2) := by decide +kernel
theorem dX4_rightsByEntries_108 : decode cX4_rightsByEntries 108 = .ok (.getfield 115, 3) := by decide +kernel
theorem dX4_rightsByEntries_111 : decode cX4_rightsByEntries 111 = .ok (.iconst (-1), 1) := by decide +kernel
theorem dX4_rightsByEntries_112 : decode cX4_rightsByEntries 112 = .ok (.ixor, 1) := by decide +kernel
theorem dX4_rightsByEntries_113 : decode cX4_rightsByEntries 113 = .ok (.iand, 1) := by decide +kernel
theorem dX4_rightsByEntries_114 : decode cX4_rightsByEntries 114 = .ok (.istore_n 3, 1) := by decide +kernel
theorem dX4_rightsByEntries_115 : decode cX4_rightsByEntries 115 = .ok (.iinc 6 1, 3) := by decide +kernel
theorem dX4_rightsByEntries_118 : decode cX4_rightsByEntries 118 = .ok (.goto (-90), 3) := by decide +kernel
theorem dX4_rightsByEntries_121 : decode cX4_rightsByEntries 121 = .ok (.aload 5, 2) := by decide +kernel
theorem dX4_rightsByEntries_123 : decode cX4_rightsByEntries 123 = .ok (.invokevirtual 196, 3) := by decide +kernel
theorem dX4_rightsByEntries_126 : decode cX4_rightsByEntries 126 = .ok (.astore 5, 2) := by decide +kernel
theorem dX4_rightsByEntries_128 : decode cX4_rightsByEntries 128 = .ok (.goto (-108), 3) := by decide +kernel
theorem dX4_rightsByEntries_131 : decode cX4_rightsByEntries 131 = .ok (.iload 4, 2) := by decide +kernel
theorem dX4_rightsByEntries_133 : decode cX4_rightsByEntries 133 = .ok (.ireturn, 1) := by decide +kernel
set_option maxRecDepth 20000 in
theorem ggX4_rightsByOverruling_X1_levelsInherited : GoodIn wsX4_rightsByOverruling wsX1_levelsInherited := goodIn_r _ [10, 11, 12, 13, 9, 14, 15, 16, 66, 67, 68, 69, 70, 71, 72] (by decide +kernel) (by decide +kernel)
set_option maxRecDepth 20000 in
theorem gX4_rightsByOverruling_X1_levelsInherited : GoodIn wsX4_rightsByOverruling (wsV RX4 200 RX1 yX1_levelsInherited wsX1_levelsInherited) := goodIn_app (goodIn_of _ (by decide +kernel)) ggX4_rightsByOverruling_X1_levelsInherited
set_option maxRecDepth 20000 in
theorem ggX4_rightsByOverruling_X1_above : GoodIn wsX4_rightsByOverruling wsX1_above := goodIn_r _ [20, 16, 66, 67, 68, 69, 70, 71, 72] (by decide +kernel) (by decide +kernel)
set_option maxRecDepth 20000 in
theorem gX4_rightsByOverruling_X1_above : GoodIn wsX4_rightsByOverruling (wsV RX4 203 RX1 yX1_above wsX1_above) := goodIn_app (goodIn_of _ (by decide +kernel)) ggX4_rightsByOverruling_X1_above
set_option maxRecDepth 20000 in
theorem ggX4_rightsByOverruling_Jx4a65c_size_8abf5 : GoodIn wsX4_rightsByOverruling wsJx4a65c_size_8abf5 := goodIn_r _ [25, 26, 77, 78, 79] (by decide +kernel) (by decide +kernel)
set_option maxRecDepth 20000 in
theorem gX4_rightsByOverruling_Jx4a65c_size_8abf5 : GoodIn wsX4_rightsByOverruling (wsV RX4 75 RJx4a65c yJx4a65c_size_8abf5 wsJx4a65c_size_8abf5) := goodIn_app (goodIn_of _ (by decide +kernel)) ggX4_rightsByOverruling_Jx4a65c_size_8abf5
set_option maxRecDepth 20000 in
theorem ggX4_rightsByOverruling_Jx4a65c_get_915e3 : GoodIn wsX4_rightsByOverruling wsJx4a65c_get_915e3 := goodIn_r _ [30, 26, 31, 32, 33, 34, 35, 36, 37, 38, 39, 40, 41, 24, 42, 43, 77, 78, 79] (by decide +kernel) (by decide +kernel)
set_option maxRecDepth 20000 in
theorem gX4_rightsByOverruling_Jx4a65c_get_915e3 : GoodIn wsX4_rightsByOverruling (wsV RX4 155 RJx4a65c yJx4a65c_get_915e3 wsJx4a65c_get_915e3) := goodIn_app (goodIn_of _ (by decide +kernel)) ggX4_rightsByOverruling_Jx4a65c_get_915e3
set_option maxRecDepth 20000 in
theorem ggX4_rightsByOverruling_X0_counts : GoodIn wsX4_rightsByOverruling wsX0_counts := goodIn_r _ [48, 49, 73, 74, 75, 76] (by decide +kernel) (by decide +kernel)
set_option maxRecDepth 20000 in
theorem gX4_rightsByOverruling_X0_counts : GoodIn wsX4_rightsByOverruling (wsV RX4 185 RX0 yX0_counts wsX0_counts) := goodIn_app (goodIn_of _ (by decide +kernel)) ggX4_rightsByOverruling_X0_counts
set_option maxRecDepth 20000 in
theorem ggX4_rightsByOverruling_X4_isFor : GoodIn wsX4_rightsByOverruling wsX4_isFor := goodIn_r _ [54, 55, 56, 57, 58, 59, 60, 61, 62, 63, 64, 53, 65, 73, 74, 75, 76, 80, 81, 82, 83, 84, 85] (by decide +kernel) (by decide +kernel)
set_option maxRecDepth 20000 in
theorem gX4_rightsByOverruling_X4_isFor : GoodIn wsX4_rightsByOverruling (wsV RX4 189 RX4 yX4_isFor wsX4_isFor) := goodIn_app (goodIn_of _ (by decide +kernel)) ggX4_rightsByOverruling_X4_isFor
theorem dX4_rightsByOverruling_0 : decode cX4_rightsByOverruling 0 = .ok (.iload_n 1, 1) := by decide +kernel
theorem dX4_rightsByOverruling_1 : decode cX4_rightsByOverruling 1 = .ok (.aload_n 2, 1) := by decide +kernel
theorem dX4_rightsByOverruling_2 : decode cX4_rightsByOverruling 2 = .ok (.getfield 81, 3) := by decide +kernel
theorem dX4_rightsByOverruling_5 : decode cX4_rightsByOverruling 5 = .ok (.if_icmp .ne 6, 3) := by decide +kernel
theorem dX4_rightsByOverruling_8 : decode cX4_rightsByOverruling 8 = .ok (.bipush 7, 2) := by decide +kernel
theorem dX4_rightsByOverruling_10 : decode cX4_rightsByOverruling 10 = .ok (.ireturn, 1) := by decide +kernel
theorem dX4_rightsByOverruling_11 : decode cX4_rightsByOverruling 11 = .ok (.iconst 0, 1) := by decide +kernel
theorem dX4_rightsByOverruling_12 : decode cX4_rightsByOverruling 12 = .ok (.istore_n 3, 1) := by decide +kernel
theorem dX4_rightsByOverruling_13 : decode cX4_rightsByOverruling 13 = .ok (.aload_n 2, 1) := by decide +kernel
theorem dX4_rightsByOverruling_14 : decode cX4_rightsByOverruling 14 = .ok (.invokevirtual 200, 3) := by decide +kernel
theorem dX4_rightsByOverruling_17 : decode cX4_rightsByOverruling 17 = .ok (.istore 4, 2) := by decide +kernel
theorem dX4_rightsByOverruling_19 : decode cX4_rightsByOverruling 19 = .ok (.iload 4, 2) := by decide +kernel
theorem dX4_rightsByOverruling_21 : decode cX4_rightsByOverruling 21 = .ok (.ifCond .lt 111, 3) := by decide +kernel
theorem dX4_rightsByOverruling_24 : decode cX4_rightsByOverruling 24 = .ok (.aload_n 2, 1) := by decide +kernel
theorem dX4_rightsByOverruling_25 : decode cX4_rightsByOverruling 25 = .ok (.iload 4, 2) := by decide +kernel
theorem dX4_rightsByOverruling_27 : decode cX4_rightsByOverruling 27 = .ok (.invokevirtual 203, 3) := by decide +kernel
theorem dX4_rightsByOverruling_30 : decode cX4_rightsByOverruling 30 = .ok (.astore 5, 2) := by decide +kernel
theorem dX4_rightsByOverruling_32 : decode cX4_rightsByOverruling 32 = .ok (.aload 5, 2) := by decide +kernel
theorem dX4_rightsByOverruling_34 : decode cX4_rightsByOverruling 34 = .ok (.getfield 99, 3) := by decide +kernel
theorem dX4_rightsByOverruling_37 : decode cX4_rightsByOverruling 37 = .ok (.invokevirtual 75, 3) := by decide +kernel
theorem dX4_rightsByOverruling_40 : decode cX4_rightsByOverruling 40 = .ok (.iconst 1, 1) := by decide +kernel
theorem dX4_rightsByOverruling_41 : decode cX4_rightsByOverruling 41 = .ok (.isub, 1) := by decide +kernel
theorem dX4_rightsByOverruling_42 : decode cX4_rightsByOverruling 42 = .ok (.istore 6, 2) := by decide +kernel
theorem dX4_rightsByOverruling_44 : decode cX4_rightsByOverruling 44 = .ok (.iload 6, 2) := by decide +kernel
theorem dX4_rightsByOverruling_46 : decode cX4_rightsByOverruling 46 = .ok (.ifCond .lt 80, 3) := by decide +kernel
theorem dX4_rightsByOverruling_49 : decode cX4_rightsByOverruling 49 = .ok (.aload 5, 2) := by decide +kernel
theorem dX4_rightsByOverruling_51 : decode cX4_rightsByOverruling 51 = .ok (.getfield 99, 3) := by decide +kernel
theorem dX4_rightsByOverruling_54 : decode cX4_rightsByOverruling 54 = .ok (.iload 6, 2) := by decide +kernel
theorem dX4_rightsByOverruling_56 : decode cX4_rightsByOverruling 56 = .ok (.invokevirtual 155, 3) := by decide +kernel
theorem dX4_rightsByOverruling_59 : decode cX4_rightsByOverruling 59 = .ok (.checkcast 104, 3) := by decide +kernel
theorem dX4_rightsByOverruling_62 : decode cX4_rightsByOverruling 62 = .ok (.astore 7, 2) := by decide +kernel
theorem dX4_rightsByOverruling_64 : decode cX4_rightsByOverruling 64 = .ok (.aload 7, 2) := by decide +kernel
theorem dX4_rightsByOverruling_66 : decode cX4_rightsByOverruling 66 = .ok (.iload 4, 2) := by decide +kernel
theorem dX4_rightsByOverruling_68 : decode cX4_rightsByOverruling 68 = .ok (.ifCond .ne 7, 3) := by decide +kernel
theorem dX4_rightsByOverruling_71 : decode cX4_rightsByOverruling 71 = .ok (.iconst 1, 1) := by decide +kernel
theorem dX4_rightsByOverruling_72 : decode cX4_rightsByOverruling 72 = .ok (.goto 4, 3) := by decide +kernel
theorem dX4_rightsByOverruling_75 : decode cX4_rightsByOverruling 75 = .ok (.iconst 0, 1) := by decide +kernel
theorem dX4_rightsByOverruling_76 : decode cX4_rightsByOverruling 76 = .ok (.invokevirtual 185, 3) := by decide +kernel
theorem dX4_rightsByOverruling_79 : decode cX4_rightsByOverruling 79 = .ok (.ifCond .eq 41, 3) := by decide +kernel
theorem dX4_rightsByOverruling_82 : decode cX4_rightsByOverruling 82 = .ok (.aload_n 0, 1) := by decide +kernel
theorem dX4_rightsByOverruling_83 : decode cX4_rightsByOverruling 83 = .ok (.aload 7, 2) := by decide +kernel
theorem dX4_rightsByOverruling_85 : decode cX4_rightsByOverruling 85 = .ok (.iload_n 1, 1) := by decide +kernel
theorem dX4_rightsByOverruling_86 : decode cX4_rightsByOverruling 86 = .ok (.invokevirtual 189, 3) := by decide +kernel
theorem dX4_rightsByOverruling_89 : decode cX4_rightsByOverruling 89 = .ok (.ifCond .eq 31, 3) := by decide +kernel
theorem dX4_rightsByOverruling_92 : decode cX4_rightsByOverruling 92 = .ok (.aload 7, 2) := by decide +kernel
theorem dX4_rightsByOverruling_94 : decode cX4_rightsByOverruling 94 = .ok (.getfield 193, 3) := by decide +kernel
theorem dX4_rightsByOverruling_97 : decode cX4_rightsByOverruling 97 = .ok (.ifCond .eq 13, 3) := by decide +kernel
theorem dX4_rightsByOverruling_100 : decode cX4_rightsByOverruling 100 = .ok (.iload_n 3, 1) := by decide +kernel
theorem dX4_rightsByOverruling_101 : decode cX4_rightsByOverruling 101 = .ok (.aload 7, 2) := by decide +kernel
theorem dX4_rightsByOverruling_103 : decode cX4_rightsByOverruling 103 = .ok (.getfield 115, 3) := by decide +kernel
theorem dX4_rightsByOverruling_106 : decode cX4_rightsByOverruling 106 = .ok (.ior, 1) := by decide +kernel
theorem dX4_rightsByOverruling_107 : decode cX4_rightsByOverruling 107 = .ok (.goto 12, 3) := by decide +kernel
theorem dX4_rightsByOverruling_110 : decode cX4_rightsByOverruling 110 = .ok (.iload_n 3, 1) := by decide +kernel
theorem dX4_rightsByOverruling_111 : decode cX4_rightsByOverruling 111 = .ok (.aload 7, 2) := by decide +kernel
theorem dX4_rightsByOverruling_113 : decode cX4_rightsByOverruling 113 = .ok (.getfield 115, 3) := by decide +kernel
theorem dX4_rightsByOverruling_116 : decode cX4_rightsByOverruling 116 = .ok (.iconst (-1), 1) := by decide +kernel
theorem dX4_rightsByOverruling_117 : decode cX4_rightsByOverruling 117 = .ok (.ixor, 1) := by decide +kernel
theorem dX4_rightsByOverruling_118 : decode cX4_rightsByOverruling 118 = .ok (.iand, 1) := by decide +kernel
theorem dX4_rightsByOverruling_119 : decode cX4_rightsByOverruling 119 = .ok (.istore_n 3, 1) := by decide +kernel
theorem dX4_rightsByOverruling_120 : decode cX4_rightsByOverruling 120 = .ok (.iinc 6 (-1), 3) := by decide +kernel
theorem dX4_rightsByOverruling_123 : decode cX4_rightsByOverruling 123 = .ok (.goto (-79), 3) := by decide +kernel
theorem dX4_rightsByOverruling_126 : decode cX4_rightsByOverruling 126 = .ok (.iinc 4 (-1), 3) := by decide +kernel
theorem dX4_rightsByOverruling_129 : decode cX4_rightsByOverruling 129 = .ok (.goto (-110), 3) := by decide +kernel
theorem dX4_rightsByOverruling_132 : decode cX4_rightsByOverruling 132 = .ok (.iload_n 3, 1) := by decide +kernel
theorem dX4_rightsByOverruling_133 : decode cX4_rightsByOverruling 133 = .ok (.ireturn, 1) := by decide +kernel
set_option maxRecDepth 20000 in
theorem ggX4_currentRights_X4_rightsByEntries : GoodIn wsX4_currentRights wsX4_rightsByEntries := goodIn_r _ [7, 8, 9, 10, 11, 12, 13, 14, 15, 16, 17, 18, 19, 20, 21, 22, 23, 24, 25, 26, 27, 28, 29, 30, 31, 32, 33, 34, 35, 36, 37, 38, 39, 40, 41, 42, 43, 44, 6, 45, 46, 47, 48, 49, 50, 51, 52, 53, 54, 55, 56, 57, 58, 59, 60, 61, 62, 63, 64, 65, 66, 67, 68, 69, 70, 71, 72, 73, 74, 75, 76, 77, 78, 79, 80, 81, 82, 83] (by decide +kernel) (by decide +kernel)
set_option maxRecDepth 20000 in
theorem gX4_currentRights_X4_rightsByEntries : GoodIn wsX4_currentRights (wsV RX4 118 RX4 yX4_rightsByEntries wsX4_rightsByEntries) := goodIn_app (goodIn_of _ (by decide +kernel)) ggX4_currentRights_X4_rightsByEntries
theorem dX4_currentRights_0 : decode cX4_currentRights 0 = .ok (.aload_n 2, 1) := by decide +kernel
theorem dX4_currentRights_1 : decode cX4_currentRights 1 = .ok (.getfield 170, 3) := by decide +kernel
theorem dX4_currentRights_4 : decode cX4_currentRights 4 = .ok (.ifCond .eq 12, 3) := by decide +kernel
theorem dX4_currentRights_7 : decode cX4_currentRights 7 = .ok (.aload_n 2, 1) := by decide +kernel
theorem dX4_currentRights_8 : decode cX4_currentRights 8 = .ok (.getfield 206, 3) := by decide +kernel
theorem dX4_currentRights_11 : decode cX4_currentRights 11 = .ok (.iload_n 1, 1) := by decide +kernel
theorem dX4_currentRights_12 : decode cX4_currentRights 12 = .ok (.iaload, 1) := by decide +kernel
theorem dX4_currentRights_13 : decode cX4_currentRights 13 = .ok (.goto 9, 3) := by decide +kernel
theorem dX4_currentRights_16 : decode cX4_currentRights 16 = .ok (.aload_n 0, 1) := by decide +kernel
theorem dX4_currentRights_17 : decode cX4_currentRights 17 = .ok (.iload_n 1, 1) := by decide +kernel
theorem dX4_currentRights_18 : decode cX4_currentRights 18 = .ok (.aload_n 2, 1) := by decide +kernel
theorem dX4_currentRights_19 : decode cX4_currentRights 19 = .ok (.invokevirtual 118, 3) := by decide +kernel
theorem dX4_currentRights_22 : decode cX4_currentRights 22 = .ok (.ireturn, 1) := by decide +kernel
set_option maxRecDepth 20000 in
theorem ggX4_findHeld_X4_rightsByEntries : GoodIn wsX4_findHeld wsX4_rightsByEntries := goodIn_r _ [7, 8, 9, 10, 11, 12, 13, 14, 15, 16, 17, 18, 19, 20, 21, 22, 23, 24, 25, 26, 27, 28, 29, 30, 31, 32, 33, 34, 35, 36, 37, 38, 39, 40, 41, 42, 43, 44, 6, 45, 46, 47, 48, 49, 50, 51, 52, 53, 54, 55, 56, 57, 58, 59, 60, 61, 62, 63, 74, 75, 76, 77, 78, 79, 80, 81, 82, 83, 84, 85, 86, 87, 64, 65, 66, 88, 89, 90] (by decide +kernel) (by decide +kernel)
set_option maxRecDepth 20000 in
theorem gX4_findHeld_X4_rightsByEntries : GoodIn wsX4_findHeld (wsV RX4 118 RX4 yX4_rightsByEntries wsX4_rightsByEntries) := goodIn_app (goodIn_of _ (by decide +kernel)) ggX4_findHeld_X4_rightsByEntries
