theorem dX0_init_0 : decode cX0_init 0 = .ok (.aload_n 0, 1) := by decide +kernel
theorem dX0_init_1 : decode cX0_init 1 = .ok (.invokespecial 3, 3) := by decide +kernel
theorem dX0_init_4 : decode cX0_init 4 = .ok (.aload_n 0, 1) := by decide +kernel
theorem dX0_init_5 : decode cX0_init 5 = .ok (.iload_n 1, 1) := by decide +kernel
theorem dX0_init_6 : decode cX0_init 6 = .ok (.putfield 9, 3) := by decide +kernel
theorem dX0_init_9 : decode cX0_init 9 = .ok (.aload_n 0, 1) := by decide +kernel
theorem dX0_init_10 : decode cX0_init 10 = .ok (.iload_n 2, 1) := by decide +kernel
theorem dX0_init_11 : decode cX0_init 11 = .ok (.putfield 15, 3) := by decide +kernel
theorem dX0_init_14 : decode cX0_init 14 = .ok (.aload_n 0, 1) := by decide +kernel
theorem dX0_init_15 : decode cX0_init 15 = .ok (.iload_n 3, 1) := by decide +kernel
theorem dX0_init_16 : decode cX0_init 16 = .ok (.putfield 19, 3) := by decide +kernel
theorem dX0_init_19 : decode cX0_init 19 = .ok (.aload_n 0, 1) := by decide +kernel
theorem dX0_init_20 : decode cX0_init 20 = .ok (.iload 4, 2) := by decide +kernel
theorem dX0_init_22 : decode cX0_init 22 = .ok (.putfield 22, 3) := by decide +kernel
theorem dX0_init_25 : decode cX0_init 25 = .ok (.return_, 1) := by decide +kernel
theorem dX0_counts_0 : decode cX0_counts 0 = .ok (.aload_n 0, 1) := by decide +kernel
theorem dX0_counts_1 : decode cX0_counts 1 = .ok (.getfield 22, 3) := by decide +kernel
theorem dX0_counts_4 : decode cX0_counts 4 = .ok (.iload_n 1, 1) := by decide +kernel
theorem dX0_counts_5 : decode cX0_counts 5 = .ok (.ifCond .eq 7, 3) := by decide +kernel
theorem dX0_counts_8 : decode cX0_counts 8 = .ok (.iconst 1, 1) := by decide +kernel
theorem dX0_counts_9 : decode cX0_counts 9 = .ok (.goto 4, 3) := by decide +kernel
theorem dX0_counts_12 : decode cX0_counts 12 = .ok (.iconst 0, 1) := by decide +kernel
theorem dX0_counts_13 : decode cX0_counts 13 = .ok (.if_icmp .eq 7, 3) := by decide +kernel
theorem dX0_counts_16 : decode cX0_counts 16 = .ok (.iconst 1, 1) := by decide +kernel
theorem dX0_counts_17 : decode cX0_counts 17 = .ok (.goto 4, 3) := by decide +kernel
theorem dX0_counts_20 : decode cX0_counts 20 = .ok (.iconst 0, 1) := by decide +kernel
theorem dX0_counts_21 : decode cX0_counts 21 = .ok (.ireturn, 1) := by decide +kernel
theorem dX1_init_0 : decode cX1_init 0 = .ok (.aload_n 0, 1) := by decide +kernel
theorem dX1_init_1 : decode cX1_init 1 = .ok (.invokespecial 3, 3) := by decide +kernel
theorem dX1_init_4 : decode cX1_init 4 = .ok (.aload_n 0, 1) := by decide +kernel
theorem dX1_init_5 : decode cX1_init 5 = .ok (.new 9, 3) := by decide +kernel
theorem dX1_init_8 : decode cX1_init 8 = .ok (.dup, 1) := by decide +kernel
theorem dX1_init_9 : decode cX1_init 9 = .ok (.invokespecial 11, 3) := by decide +kernel
theorem dX1_init_12 : decode cX1_init 12 = .ok (.putfield 12, 3) := by decide +kernel
theorem dX1_init_15 : decode cX1_init 15 = .ok (.aload_n 0, 1) := by decide +kernel
theorem dX1_init_16 : decode cX1_init 16 = .ok (.bipush 8, 2) := by decide +kernel
theorem dX1_init_18 : decode cX1_init 18 = .ok (.newarray .int, 2) := by decide +kernel
theorem dX1_init_20 : decode cX1_init 20 = .ok (.putfield 18, 3) := by decide +kernel
theorem dX1_init_23 : decode cX1_init 23 = .ok (.aload_n 0, 1) := by decide +kernel
theorem dX1_init_24 : decode cX1_init 24 = .ok (.iconst 1, 1) := by decide +kernel
theorem dX1_init_25 : decode cX1_init 25 = .ok (.putfield 22, 3) := by decide +kernel
theorem dX1_init_28 : decode cX1_init 28 = .ok (.aload_n 0, 1) := by decide +kernel
theorem dX1_init_29 : decode cX1_init 29 = .ok (.iconst 0, 1) := by decide +kernel
theorem dX1_init_30 : decode cX1_init 30 = .ok (.putfield 26, 3) := by decide +kernel
theorem dX1_init_33 : decode cX1_init 33 = .ok (.aload_n 0, 1) := by decide +kernel
theorem dX1_init_34 : decode cX1_init 34 = .ok (.iconst 0, 1) := by decide +kernel
theorem dX1_init_35 : decode cX1_init 35 = .ok (.putfield 29, 3) := by decide +kernel
theorem dX1_init_38 : decode cX1_init 38 = .ok (.aload_n 0, 1) := by decide +kernel
theorem dX1_init_39 : decode cX1_init 39 = .ok (.aload_n 1, 1) := by decide +kernel
theorem dX1_init_40 : decode cX1_init 40 = .ok (.putfield 32, 3) := by decide +kernel
theorem dX1_init_43 : decode cX1_init 43 = .ok (.aload_n 0, 1) := by decide +kernel
theorem dX1_init_44 : decode cX1_init 44 = .ok (.iload_n 2, 1) := by decide +kernel
theorem dX1_init_45 : decode cX1_init 45 = .ok (.putfield 36, 3) := by decide +kernel
theorem dX1_init_48 : decode cX1_init 48 = .ok (.return_, 1) := by decide +kernel
theorem dX1_inheritsFrom_0 : decode cX1_inheritsFrom 0 = .ok (.aload_n 0, 1) := by decide +kernel
theorem dX1_inheritsFrom_1 : decode cX1_inheritsFrom 1 = .ok (.getfield 22, 3) := by decide +kernel
theorem dX1_inheritsFrom_4 : decode cX1_inheritsFrom 4 = .ok (.ifCond .eq 10, 3) := by decide +kernel
theorem dX1_inheritsFrom_7 : decode cX1_inheritsFrom 7 = .ok (.aload_n 0, 1) := by decide +kernel
theorem dX1_inheritsFrom_8 : decode cX1_inheritsFrom 8 = .ok (.getfield 32, 3) := by decide +kernel
theorem dX1_inheritsFrom_11 : decode cX1_inheritsFrom 11 = .ok (.goto 4, 3) := by decide +kernel
theorem dX1_inheritsFrom_14 : decode cX1_inheritsFrom 14 = .ok (.aconst_null, 1) := by decide +kernel
theorem dX1_inheritsFrom_15 : decode cX1_inheritsFrom 15 = .ok (.areturn, 1) := by decide +kernel
theorem dX1_levelsInherited_0 : decode cX1_levelsInherited 0 = .ok (.iconst 0, 1) := by decide +kernel
theorem dX1_levelsInherited_1 : decode cX1_levelsInherited 1 = .ok (.istore_n 1, 1) := by decide +kernel
theorem dX1_levelsInherited_2 : decode cX1_levelsInherited 2 = .ok (.aload_n 0, 1) := by decide +kernel
theorem dX1_levelsInherited_3 : decode cX1_levelsInherited 3 = .ok (.invokevirtual 40, 3) := by decide +kernel
theorem dX1_levelsInherited_6 : decode cX1_levelsInherited 6 = .ok (.astore_n 2, 1) := by decide +kernel
theorem dX1_levelsInherited_7 : decode cX1_levelsInherited 7 = .ok (.aload_n 2, 1) := by decide +kernel
theorem dX1_levelsInherited_8 : decode cX1_levelsInherited 8 = .ok (.ifnull 14, 3) := by decide +kernel
theorem dX1_levelsInherited_11 : decode cX1_levelsInherited 11 = .ok (.iinc 1 1, 3) := by decide +kernel
theorem dX1_levelsInherited_14 : decode cX1_levelsInherited 14 = .ok (.aload_n 2, 1) := by decide +kernel
theorem dX1_levelsInherited_15 : decode cX1_levelsInherited 15 = .ok (.invokevirtual 40, 3) := by decide +kernel
theorem dX1_levelsInherited_18 : decode cX1_levelsInherited 18 = .ok (.astore_n 2, 1) := by decide +kernel
theorem dX1_levelsInherited_19 : decode cX1_levelsInherited 19 = .ok (.goto (-12), 3) := by decide +kernel
theorem dX1_levelsInherited_22 : decode cX1_levelsInherited 22 = .ok (.iload_n 1, 1) := by decide +kernel
theorem dX1_levelsInherited_23 : decode cX1_levelsInherited 23 = .ok (.ireturn, 1) := by decide +kernel
theorem dX1_above_0 : decode cX1_above 0 = .ok (.aload_n 0, 1) := by decide +kernel
theorem dX1_above_1 : decode cX1_above 1 = .ok (.astore_n 2, 1) := by decide +kernel
theorem dX1_above_2 : decode cX1_above 2 = .ok (.iconst 0, 1) := by decide +kernel
theorem dX1_above_3 : decode cX1_above 3 = .ok (.istore_n 3, 1) := by decide +kernel
theorem dX1_above_4 : decode cX1_above 4 = .ok (.iload_n 3, 1) := by decide +kernel
theorem dX1_above_5 : decode cX1_above 5 = .ok (.iload_n 1, 1) := by decide +kernel
theorem dX1_above_6 : decode cX1_above 6 = .ok (.if_icmp .ge 21, 3) := by decide +kernel
theorem dX1_above_9 : decode cX1_above 9 = .ok (.aload_n 2, 1) := by decide +kernel
theorem dX1_above_10 : decode cX1_above 10 = .ok (.getfield 32, 3) := by decide +kernel
theorem dX1_above_13 : decode cX1_above 13 = .ok (.ifnull 14, 3) := by decide +kernel
theorem dX1_above_16 : decode cX1_above 16 = .ok (.aload_n 2, 1) := by decide +kernel
theorem dX1_above_17 : decode cX1_above 17 = .ok (.getfield 32, 3) := by decide +kernel
theorem dX1_above_20 : decode cX1_above 20 = .ok (.astore_n 2, 1) := by decide +kernel
theorem dX1_above_21 : decode cX1_above 21 = .ok (.iinc 3 1, 3) := by decide +kernel
theorem dX1_above_24 : decode cX1_above 24 = .ok (.goto (-20), 3) := by decide +kernel
theorem dX1_above_27 : decode cX1_above 27 = .ok (.aload_n 2, 1) := by decide +kernel
theorem dX1_above_28 : decode cX1_above 28 = .ok (.areturn, 1) := by decide +kernel
theorem dX1_keeps_0 : decode cX1_keeps 0 = .ok (.aload_n 0, 1) := by decide +kernel
theorem dX1_keeps_1 : decode cX1_keeps 1 = .ok (.getfield 26, 3) := by decide +kernel
theorem dX1_keeps_4 : decode cX1_keeps 4 = .ok (.ifCond .ne 5, 3) := by decide +kernel
theorem dX1_keeps_7 : decode cX1_keeps 7 = .ok (.iconst 0, 1) := by decide +kernel
theorem dX1_keeps_8 : decode cX1_keeps 8 = .ok (.ireturn, 1) := by decide +kernel
theorem dX1_keeps_9 : decode cX1_keeps 9 = .ok (.iconst 0, 1) := by decide +kernel
theorem dX1_keeps_10 : decode cX1_keeps 10 = .ok (.istore_n 2, 1) := by decide +kernel
theorem dX1_keeps_11 : decode cX1_keeps 11 = .ok (.iload_n 2, 1) := by decide +kernel
theorem dX1_keeps_12 : decode cX1_keeps 12 = .ok (.bipush 8, 2) := by decide +kernel
theorem dX1_keeps_14 : decode cX1_keeps 14 = .ok (.if_icmp .ge 23, 3) := by decide +kernel
theorem dX1_keeps_17 : decode cX1_keeps 17 = .ok (.aload_n 0, 1) := by decide +kernel
theorem dX1_keeps_18 : decode cX1_keeps 18 = .ok (.getfield 18, 3) := by decide +kernel
theorem dX1_keeps_21 : decode cX1_keeps 21 = .ok (.iload_n 2, 1) := by decide +kernel
theorem dX1_keeps_22 : decode cX1_keeps 22 = .ok (.iaload, 1) := by decide +kernel
theorem dX1_keeps_23 : decode cX1_keeps 23 = .ok (.aload_n 1, 1) := by decide +kernel
theorem dX1_keeps_24 : decode cX1_keeps 24 = .ok (.iload_n 2, 1) := by decide +kernel
theorem dX1_keeps_25 : decode cX1_keeps 25 = .ok (.iaload, 1) := by decide +kernel
theorem dX1_keeps_26 : decode cX1_keeps 26 = .ok (.if_icmp .eq 5, 3) := by decide +kernel
theorem dX1_keeps_29 : decode cX1_keeps 29 = .ok (.iconst 0, 1) := by decide +kernel
theorem dX1_keeps_30 : decode cX1_keeps 30 = .ok (.ireturn, 1) := by decide +kernel
theorem dX1_keeps_31 : decode cX1_keeps 31 = .ok (.iinc 2 1, 3) := by decide +kernel
theorem dX1_keeps_34 : decode cX1_keeps 34 = .ok (.goto (-23), 3) := by decide +kernel
theorem dX1_keeps_37 : decode cX1_keeps 37 = .ok (.iconst 1, 1) := by decide +kernel
theorem dX1_keeps_38 : decode cX1_keeps 38 = .ok (.ireturn, 1) := by decide +kernel
theorem dX1_keep_0 : decode cX1_keep 0 = .ok (.aload_n 0, 1) := by decide +kernel
theorem dX1_keep_1 : decode cX1_keep 1 = .ok (.aload_n 1, 1) := by decide +kernel
theorem dX1_keep_2 : decode cX1_keep 2 = .ok (.invokevirtual 44, 3) := by decide +kernel
theorem dX1_keep_5 : decode cX1_keep 5 = .ok (.ifCond .ne 7, 3) := by decide +kernel
theorem dX1_keep_8 : decode cX1_keep 8 = .ok (.iconst 1, 1) := by decide +kernel
theorem dX1_keep_9 : decode cX1_keep 9 = .ok (.goto 4, 3) := by decide +kernel
theorem dX1_keep_12 : decode cX1_keep 12 = .ok (.iconst 0, 1) := by decide +kernel
theorem dX1_keep_13 : decode cX1_keep 13 = .ok (.istore_n 2, 1) := by decide +kernel
theorem dX1_keep_14 : decode cX1_keep 14 = .ok (.aload_n 1, 1) := by decide +kernel
theorem dX1_keep_15 : decode cX1_keep 15 = .ok (.iconst 0, 1) := by decide +kernel
theorem dX1_keep_16 : decode cX1_keep 16 = .ok (.aload_n 0, 1) := by decide +kernel
theorem dX1_keep_17 : decode cX1_keep 17 = .ok (.getfield 18, 3) := by decide +kernel
theorem dX1_keep_20 : decode cX1_keep 20 = .ok (.iconst 0, 1) := by decide +kernel
theorem dX1_keep_21 : decode cX1_keep 21 = .ok (.bipush 8, 2) := by decide +kernel
theorem dX1_keep_23 : decode cX1_keep 23 = .ok (.invokestatic 48, 3) := by decide +kernel
theorem dX1_keep_26 : decode cX1_keep 26 = .ok (.aload_n 0, 1) := by decide +kernel
theorem dX1_keep_27 : decode cX1_keep 27 = .ok (.iconst 1, 1) := by decide +kernel
theorem dX1_keep_28 : decode cX1_keep 28 = .ok (.putfield 26, 3) := by decide +kernel
theorem dX1_keep_31 : decode cX1_keep 31 = .ok (.iload_n 2, 1) := by decide +kernel
theorem dX1_keep_32 : decode cX1_keep 32 = .ok (.ireturn, 1) := by decide +kernel
theorem dX2_init_0 : decode cX2_init 0 = .ok (.aload_n 0, 1) := by decide +kernel
theorem dX2_init_1 : decode cX2_init 1 = .ok (.invokespecial 3, 3) := by decide +kernel
theorem dX2_init_4 : decode cX2_init 4 = .ok (.aload_n 0, 1) := by decide +kernel
theorem dX2_init_5 : decode cX2_init 5 = .ok (.bipush 6, 2) := by decide +kernel
theorem dX2_init_7 : decode cX2_init 7 = .ok (.newarray .int, 2) := by decide +kernel
theorem dX2_init_9 : decode cX2_init 9 = .ok (.putfield 9, 3) := by decide +kernel
theorem dX2_init_12 : decode cX2_init 12 = .ok (.aload_n 0, 1) := by decide +kernel
theorem dX2_init_13 : decode cX2_init 13 = .ok (.bipush 6, 2) := by decide +kernel
theorem dX2_init_15 : decode cX2_init 15 = .ok (.newarray .int, 2) := by decide +kernel
theorem dX2_init_17 : decode cX2_init 17 = .ok (.putfield 15, 3) := by decide +kernel
theorem dX2_init_20 : decode cX2_init 20 = .ok (.aload_n 0, 1) := by decide +kernel
theorem dX2_init_21 : decode cX2_init 21 = .ok (.bipush 6, 2) := by decide +kernel
theorem dX2_init_23 : decode cX2_init 23 = .ok (.newarray .int, 2) := by decide +kernel
theorem dX2_init_25 : decode cX2_init 25 = .ok (.putfield 18, 3) := by decide +kernel
theorem dX2_init_28 : decode cX2_init 28 = .ok (.return_, 1) := by decide +kernel
theorem dX2_put_0 : decode cX2_put 0 = .ok (.aload_n 0, 1) := by decide +kernel
theorem dX2_put_1 : decode cX2_put 1 = .ok (.getfield 9, 3) := by decide +kernel
theorem dX2_put_4 : decode cX2_put 4 = .ok (.iload_n 1, 1) := by decide +kernel
theorem dX2_put_5 : decode cX2_put 5 = .ok (.iaload, 1) := by decide +kernel
theorem dX2_put_6 : decode cX2_put 6 = .ok (.iload_n 2, 1) := by decide +kernel
theorem dX2_put_7 : decode cX2_put 7 = .ok (.invokestatic 21, 3) := by decide +kernel
theorem dX2_put_10 : decode cX2_put 10 = .ok (.istore 4, 2) := by decide +kernel
theorem dX2_put_12 : decode cX2_put 12 = .ok (.iload 4, 2) := by decide +kernel
theorem dX2_put_14 : decode cX2_put 14 = .ok (.iload_n 3, 1) := by decide +kernel
theorem dX2_put_15 : decode cX2_put 15 = .ok (.if_icmp .eq 19, 3) := by decide +kernel
theorem dX2_put_18 : decode cX2_put 18 = .ok (.aload_n 0, 1) := by decide +kernel
theorem dX2_put_19 : decode cX2_put 19 = .ok (.getfield 9, 3) := by decide +kernel
theorem dX2_put_22 : decode cX2_put 22 = .ok (.iload_n 1, 1) := by decide +kernel
theorem dX2_put_23 : decode cX2_put 23 = .ok (.dup2, 1) := by decide +kernel
theorem dX2_put_24 : decode cX2_put 24 = .ok (.iaload, 1) := by decide +kernel
theorem dX2_put_25 : decode cX2_put 25 = .ok (.iconst 1, 1) := by decide +kernel
theorem dX2_put_26 : decode cX2_put 26 = .ok (.iload_n 2, 1) := by decide +kernel
theorem dX2_put_27 : decode cX2_put 27 = .ok (.ishl, 1) := by decide +kernel
theorem dX2_put_28 : decode cX2_put 28 = .ok (.ixor, 1) := by decide +kernel
theorem dX2_put_29 : decode cX2_put 29 = .ok (.iastore, 1) := by decide +kernel
theorem dX2_put_30 : decode cX2_put 30 = .ok (.aload_n 0, 1) := by decide +kernel
theorem dX2_put_31 : decode cX2_put 31 = .ok (.invokevirtual 25, 3) := by decide +kernel
theorem dX2_put_34 : decode cX2_put 34 = .ok (.iload 4, 2) := by decide +kernel
theorem dX2_put_36 : decode cX2_put 36 = .ok (.ireturn, 1) := by decide +kernel
theorem dX2_toggleInner_0 : decode cX2_toggleInner 0 = .ok (.aload_n 0, 1) := by decide +kernel
theorem dX2_toggleInner_1 : decode cX2_toggleInner 1 = .ok (.getfield 15, 3) := by decide +kernel
theorem dX2_toggleInner_4 : decode cX2_toggleInner 4 = .ok (.iload_n 1, 1) := by decide +kernel
theorem dX2_toggleInner_5 : decode cX2_toggleInner 5 = .ok (.dup2, 1) := by decide +kernel
theorem dX2_toggleInner_6 : decode cX2_toggleInner 6 = .ok (.iaload, 1) := by decide +kernel
theorem dX2_toggleInner_7 : decode cX2_toggleInner 7 = .ok (.iconst 1, 1) := by decide +kernel
theorem dX2_toggleInner_8 : decode cX2_toggleInner 8 = .ok (.iload_n 2, 1) := by decide +kernel
theorem dX2_toggleInner_9 : decode cX2_toggleInner 9 = .ok (.ishl, 1) := by decide +kernel
theorem dX2_toggleInner_10 : decode cX2_toggleInner 10 = .ok (.ixor, 1) := by decide +kernel
theorem dX2_toggleInner_11 : decode cX2_toggleInner 11 = .ok (.iastore, 1) := by decide +kernel
theorem dX2_toggleInner_12 : decode cX2_toggleInner 12 = .ok (.aload_n 0, 1) := by decide +kernel
theorem dX2_toggleInner_13 : decode cX2_toggleInner 13 = .ok (.invokevirtual 25, 3) := by decide +kernel
theorem dX2_toggleInner_16 : decode cX2_toggleInner 16 = .ok (.aload_n 0, 1) := by decide +kernel
theorem dX2_toggleInner_17 : decode cX2_toggleInner 17 = .ok (.getfield 15, 3) := by decide +kernel
theorem dX2_toggleInner_20 : decode cX2_toggleInner 20 = .ok (.iload_n 1, 1) := by decide +kernel
theorem dX2_toggleInner_21 : decode cX2_toggleInner 21 = .ok (.iaload, 1) := by decide +kernel
theorem dX2_toggleInner_22 : decode cX2_toggleInner 22 = .ok (.iload_n 2, 1) := by decide +kernel
theorem dX2_toggleInner_23 : decode cX2_toggleInner 23 = .ok (.invokestatic 21, 3) := by decide +kernel
theorem dX2_toggleInner_26 : decode cX2_toggleInner 26 = .ok (.ireturn, 1) := by decide +kernel
theorem dX2_everyoneIn_0 : decode cX2_everyoneIn 0 = .ok (.aload_n 0, 1) := by decide +kernel
theorem dX2_everyoneIn_1 : decode cX2_everyoneIn 1 = .ok (.getfield 18, 3) := by decide +kernel
theorem dX2_everyoneIn_4 : decode cX2_everyoneIn 4 = .ok (.iload_n 1, 1) := by decide +kernel
theorem dX2_everyoneIn_5 : decode cX2_everyoneIn 5 = .ok (.iaload, 1) := by decide +kernel
theorem dX2_everyoneIn_6 : decode cX2_everyoneIn 6 = .ok (.ireturn, 1) := by decide +kernel
theorem dX2_reachedFrom_0 : decode cX2_reachedFrom 0 = .ok (.iconst 1, 1) := by decide +kernel
theorem dX2_reachedFrom_1 : decode cX2_reachedFrom 1 = .ok (.iload_n 1, 1) := by decide +kernel
theorem dX2_reachedFrom_2 : decode cX2_reachedFrom 2 = .ok (.ishl, 1) := by decide +kernel
theorem dX2_reachedFrom_3 : decode cX2_reachedFrom 3 = .ok (.istore_n 2, 1) := by decide +kernel
theorem dX2_reachedFrom_4 : decode cX2_reachedFrom 4 = .ok (.iconst 1, 1) := by decide +kernel
theorem dX2_reachedFrom_5 : decode cX2_reachedFrom 5 = .ok (.istore_n 3, 1) := by decide +kernel
theorem dX2_reachedFrom_6 : decode cX2_reachedFrom 6 = .ok (.iload_n 3, 1) := by decide +kernel
theorem dX2_reachedFrom_7 : decode cX2_reachedFrom 7 = .ok (.bipush 6, 2) := by decide +kernel
theorem dX2_reachedFrom_9 : decode cX2_reachedFrom 9 = .ok (.if_icmp .ge 44, 3) := by decide +kernel
theorem dX2_reachedFrom_12 : decode cX2_reachedFrom 12 = .ok (.iconst 0, 1) := by decide +kernel
theorem dX2_reachedFrom_13 : decode cX2_reachedFrom 13 = .ok (.istore 4, 2) := by decide +kernel
theorem dX2_reachedFrom_15 : decode cX2_reachedFrom 15 = .ok (.iload 4, 2) := by decide +kernel
theorem dX2_reachedFrom_17 : decode cX2_reachedFrom 17 = .ok (.bipush 6, 2) := by decide +kernel
theorem dX2_reachedFrom_19 : decode cX2_reachedFrom 19 = .ok (.if_icmp .ge 28, 3) := by decide +kernel
theorem dX2_reachedFrom_22 : decode cX2_reachedFrom 22 = .ok (.iload_n 2, 1) := by decide +kernel
theorem dX2_reachedFrom_23 : decode cX2_reachedFrom 23 = .ok (.iload 4, 2) := by decide +kernel
theorem dX2_reachedFrom_25 : decode cX2_reachedFrom 25 = .ok (.invokestatic 21, 3) := by decide +kernel
theorem dX2_reachedFrom_28 : decode cX2_reachedFrom 28 = .ok (.ifCond .eq 13, 3) := by decide +kernel
theorem dX2_reachedFrom_31 : decode cX2_reachedFrom 31 = .ok (.iload_n 2, 1) := by decide +kernel
theorem dX2_reachedFrom_32 : decode cX2_reachedFrom 32 = .ok (.aload_n 0, 1) := by decide +kernel
theorem dX2_reachedFrom_33 : decode cX2_reachedFrom 33 = .ok (.getfield 15, 3) := by decide +kernel
theorem dX2_reachedFrom_36 : decode cX2_reachedFrom 36 = .ok (.iload 4, 2) := by decide +kernel
theorem dX2_reachedFrom_38 : decode cX2_reachedFrom 38 = .ok (.iaload, 1) := by decide +kernel
theorem dX2_reachedFrom_39 : decode cX2_reachedFrom 39 = .ok (.ior, 1) := by decide +kernel
theorem dX2_reachedFrom_40 : decode cX2_reachedFrom 40 = .ok (.istore_n 2, 1) := by decide +kernel
theorem dX2_reachedFrom_41 : decode cX2_reachedFrom 41 = .ok (.iinc 4 1, 3) := by decide +kernel
theorem dX2_reachedFrom_44 : decode cX2_reachedFrom 44 = .ok (.goto (-29), 3) := by decide +kernel
theorem dX2_reachedFrom_47 : decode cX2_reachedFrom 47 = .ok (.iinc 3 1, 3) := by decide +kernel
theorem dX2_reachedFrom_50 : decode cX2_reachedFrom 50 = .ok (.goto (-44), 3) := by decide +kernel
theorem dX2_reachedFrom_53 : decode cX2_reachedFrom 53 = .ok (.iload_n 2, 1) := by decide +kernel
theorem dX2_reachedFrom_54 : decode cX2_reachedFrom 54 = .ok (.ireturn, 1) := by decide +kernel
theorem dX2_findEveryone_0 : decode cX2_findEveryone 0 = .ok (.iconst 0, 1) := by decide +kernel
theorem dX2_findEveryone_1 : decode cX2_findEveryone 1 = .ok (.istore_n 1, 1) := by decide +kernel
theorem dX2_findEveryone_2 : decode cX2_findEveryone 2 = .ok (.iload_n 1, 1) := by decide +kernel
theorem dX2_findEveryone_3 : decode cX2_findEveryone 3 = .ok (.bipush 6, 2) := by decide +kernel
theorem dX2_findEveryone_5 : decode cX2_findEveryone 5 = .ok (.if_icmp .ge 59, 3) := by decide +kernel
theorem dX2_findEveryone_8 : decode cX2_findEveryone 8 = .ok (.aload_n 0, 1) := by decide +kernel
theorem dX2_findEveryone_9 : decode cX2_findEveryone 9 = .ok (.iload_n 1, 1) := by decide +kernel
theorem dX2_findEveryone_10 : decode cX2_findEveryone 10 = .ok (.invokevirtual 28, 3) := by decide +kernel
theorem dX2_findEveryone_13 : decode cX2_findEveryone 13 = .ok (.istore_n 2, 1) := by decide +kernel
theorem dX2_findEveryone_14 : decode cX2_findEveryone 14 = .ok (.iconst 0, 1) := by decide +kernel
theorem dX2_findEveryone_15 : decode cX2_findEveryone 15 = .ok (.istore_n 3, 1) := by decide +kernel
theorem dX2_findEveryone_16 : decode cX2_findEveryone 16 = .ok (.iconst 0, 1) := by decide +kernel
theorem dX2_findEveryone_17 : decode cX2_findEveryone 17 = .ok (.istore 4, 2) := by decide +kernel
theorem dX2_findEveryone_19 : decode cX2_findEveryone 19 = .ok (.iload 4, 2) := by decide +kernel
theorem dX2_findEveryone_21 : decode cX2_findEveryone 21 = .ok (.bipush 6, 2) := by decide +kernel
theorem dX2_findEveryone_23 : decode cX2_findEveryone 23 = .ok (.if_icmp .ge 28, 3) := by decide +kernel
theorem dX2_findEveryone_26 : decode cX2_findEveryone 26 = .ok (.iload_n 2, 1) := by decide +kernel
theorem dX2_findEveryone_27 : decode cX2_findEveryone 27 = .ok (.iload 4, 2) := by decide +kernel
theorem dX2_findEveryone_29 : decode cX2_findEveryone 29 = .ok (.invokestatic 21, 3) := by decide +kernel
theorem dX2_findEveryone_32 : decode cX2_findEveryone 32 = .ok (.ifCond .eq 13, 3) := by decide +kernel
theorem dX2_findEveryone_35 : decode cX2_findEveryone 35 = .ok (.iload_n 3, 1) := by decide +kernel
theorem dX2_findEveryone_36 : decode cX2_findEveryone 36 = .ok (.aload_n 0, 1) := by decide +kernel
theorem dX2_findEveryone_37 : decode cX2_findEveryone 37 = .ok (.getfield 9, 3) := by decide +kernel
theorem dX2_findEveryone_40 : decode cX2_findEveryone 40 = .ok (.iload 4, 2) := by decide +kernel
theorem dX2_findEveryone_42 : decode cX2_findEveryone 42 = .ok (.iaload, 1) := by decide +kernel
theorem dX2_findEveryone_43 : decode cX2_findEveryone 43 = .ok (.ior, 1) := by decide +kernel
theorem dX2_findEveryone_44 : decode cX2_findEveryone 44 = .ok (.istore_n 3, 1) := by decide +kernel
theorem dX2_findEveryone_45 : decode cX2_findEveryone 45 = .ok (.iinc 4 1, 3) := by decide +kernel
theorem dX2_findEveryone_48 : decode cX2_findEveryone 48 = .ok (.goto (-29), 3) := by decide +kernel
theorem dX2_findEveryone_51 : decode cX2_findEveryone 51 = .ok (.aload_n 0, 1) := by decide +kernel
theorem dX2_findEveryone_52 : decode cX2_findEveryone 52 = .ok (.getfield 18, 3) := by decide +kernel
theorem dX2_findEveryone_55 : decode cX2_findEveryone 55 = .ok (.iload_n 1, 1) := by decide +kernel
theorem dX2_findEveryone_56 : decode cX2_findEveryone 56 = .ok (.iload_n 3, 1) := by decide +kernel
theorem dX2_findEveryone_57 : decode cX2_findEveryone 57 = .ok (.iastore, 1) := by decide +kernel
theorem dX2_findEveryone_58 : decode cX2_findEveryone 58 = .ok (.iinc 1 1, 3) := by decide +kernel
theorem dX2_findEveryone_61 : decode cX2_findEveryone 61 = .ok (.goto (-59), 3) := by decide +kernel
theorem dX2_findEveryone_64 : decode cX2_findEveryone 64 = .ok (.return_, 1) := by decide +kernel
theorem dX3_init_0 : decode cX3_init 0 = .ok (.aload_n 0, 1) := by decide +kernel
theorem dX3_init_1 : decode cX3_init 1 = .ok (.invokespecial 3, 3) := by decide +kernel
theorem dX3_init_4 : decode cX3_init 4 = .ok (.aload_n 0, 1) := by decide +kernel
theorem dX3_init_5 : decode cX3_init 5 = .ok (.bipush 8, 2) := by decide +kernel
theorem dX3_init_7 : decode cX3_init 7 = .ok (.newarray .int, 2) := by decide +kernel
theorem dX3_init_9 : decode cX3_init 9 = .ok (.putfield 9, 3) := by decide +kernel
theorem dX3_init_12 : decode cX3_init 12 = .ok (.aload_n 0, 1) := by decide +kernel
theorem dX3_init_13 : decode cX3_init 13 = .ok (.bipush 8, 2) := by decide +kernel
theorem dX3_init_15 : decode cX3_init 15 = .ok (.newarray .int, 2) := by decide +kernel
theorem dX3_init_17 : decode cX3_init 17 = .ok (.putfield 15, 3) := by decide +kernel
theorem dX3_init_20 : decode cX3_init 20 = .ok (.aload_n 0, 1) := by decide +kernel
theorem dX3_init_21 : decode cX3_init 21 = .ok (.iconst (-1), 1) := by decide +kernel
theorem dX3_init_22 : decode cX3_init 22 = .ok (.putfield 18, 3) := by decide +kernel
theorem dX3_init_25 : decode cX3_init 25 = .ok (.aload_n 0, 1) := by decide +kernel
theorem dX3_init_26 : decode cX3_init 26 = .ok (.iconst 0, 1) := by decide +kernel
theorem dX3_init_27 : decode cX3_init 27 = .ok (.putfield 22, 3) := by decide +kernel
theorem dX3_init_30 : decode cX3_init 30 = .ok (.aload_n 0, 1) := by decide +kernel
theorem dX3_init_31 : decode cX3_init 31 = .ok (.iconst 0, 1) := by decide +kernel
theorem dX3_init_32 : decode cX3_init 32 = .ok (.putfield 25, 3) := by decide +kernel
theorem dX3_init_35 : decode cX3_init 35 = .ok (.aload_n 0, 1) := by decide +kernel
theorem dX3_init_36 : decode cX3_init 36 = .ok (.iconst 0, 1) := by decide +kernel
theorem dX3_init_37 : decode cX3_init 37 = .ok (.putfield 28, 3) := by decide +kernel
theorem dX3_init_40 : decode cX3_init 40 = .ok (.aload_n 0, 1) := by decide +kernel
theorem dX3_init_41 : decode cX3_init 41 = .ok (.iconst 0, 1) := by decide +kernel
theorem dX3_init_42 : decode cX3_init 42 = .ok (.putfield 31, 3) := by decide +kernel
theorem dX3_init_45 : decode cX3_init 45 = .ok (.return_, 1) := by decide +kernel
theorem dX3_make_0 : decode cX3_make 0 = .ok (.aload_n 0, 1) := by decide +kernel
theorem dX3_make_1 : decode cX3_make 1 = .ok (.iload_n 2, 1) := by decide +kernel
theorem dX3_make_2 : decode cX3_make 2 = .ok (.putfield 18, 3) := by decide +kernel
theorem dX3_make_5 : decode cX3_make 5 = .ok (.aload_n 0, 1) := by decide +kernel
theorem dX3_make_6 : decode cX3_make 6 = .ok (.iconst 0, 1) := by decide +kernel
theorem dX3_make_7 : decode cX3_make 7 = .ok (.putfield 28, 3) := by decide +kernel
theorem dX3_make_10 : decode cX3_make 10 = .ok (.aload_n 0, 1) := by decide +kernel
theorem dX3_make_11 : decode cX3_make 11 = .ok (.iload_n 1, 1) := by decide +kernel
theorem dX3_make_12 : decode cX3_make 12 = .ok (.iload_n 3, 1) := by decide +kernel
theorem dX3_make_13 : decode cX3_make 13 = .ok (.invokevirtual 34, 3) := by decide +kernel
theorem dX3_make_16 : decode cX3_make 16 = .ok (.iconst 0, 1) := by decide +kernel
theorem dX3_make_17 : decode cX3_make 17 = .ok (.istore 4, 2) := by decide +kernel
theorem dX3_make_19 : decode cX3_make 19 = .ok (.iload 4, 2) := by decide +kernel
theorem dX3_make_21 : decode cX3_make 21 = .ok (.iconst 3, 1) := by decide +kernel
theorem dX3_make_22 : decode cX3_make 22 = .ok (.if_icmp .ge 37, 3) := by decide +kernel
theorem dX3_make_25 : decode cX3_make 25 = .ok (.aload_n 0, 1) := by decide +kernel
theorem dX3_make_26 : decode cX3_make 26 = .ok (.getfield 31, 3) := by decide +kernel
theorem dX3_make_29 : decode cX3_make 29 = .ok (.ifCond .le 30, 3) := by decide +kernel
theorem dX3_make_32 : decode cX3_make 32 = .ok (.aload_n 0, 1) := by decide +kernel
theorem dX3_make_33 : decode cX3_make 33 = .ok (.dup, 1) := by decide +kernel
theorem dX3_make_34 : decode cX3_make 34 = .ok (.getfield 28, 3) := by decide +kernel
theorem dX3_make_37 : decode cX3_make 37 = .ok (.iconst 1, 1) := by decide +kernel
theorem dX3_make_38 : decode cX3_make 38 = .ok (.aload_n 0, 1) := by decide +kernel
theorem dX3_make_39 : decode cX3_make 39 = .ok (.invokevirtual 38, 3) := by decide +kernel
theorem dX3_make_42 : decode cX3_make 42 = .ok (.ishl, 1) := by decide +kernel
theorem dX3_make_43 : decode cX3_make 43 = .ok (.ior, 1) := by decide +kernel
theorem dX3_make_44 : decode cX3_make 44 = .ok (.putfield 28, 3) := by decide +kernel
theorem dX3_make_47 : decode cX3_make 47 = .ok (.aload_n 0, 1) := by decide +kernel
theorem dX3_make_48 : decode cX3_make 48 = .ok (.iload_n 1, 1) := by decide +kernel
theorem dX3_make_49 : decode cX3_make 49 = .ok (.iload_n 3, 1) := by decide +kernel
theorem dX3_make_50 : decode cX3_make 50 = .ok (.invokevirtual 34, 3) := by decide +kernel
theorem dX3_make_53 : decode cX3_make 53 = .ok (.iinc 4 1, 3) := by decide +kernel
theorem dX3_make_56 : decode cX3_make 56 = .ok (.goto (-37), 3) := by decide +kernel
theorem dX3_make_59 : decode cX3_make 59 = .ok (.return_, 1) := by decide +kernel
theorem dX3_findBits_0 : decode cX3_findBits 0 = .ok (.sipush 255, 3) := by decide +kernel
theorem dX3_findBits_3 : decode cX3_findBits 3 = .ok (.aload_n 0, 1) := by decide +kernel
theorem dX3_findBits_4 : decode cX3_findBits 4 = .ok (.getfield 28, 3) := by decide +kernel
theorem dX3_findBits_7 : decode cX3_findBits 7 = .ok (.iconst (-1), 1) := by decide +kernel
theorem dX3_findBits_8 : decode cX3_findBits 8 = .ok (.ixor, 1) := by decide +kernel
theorem dX3_findBits_9 : decode cX3_findBits 9 = .ok (.iand, 1) := by decide +kernel
theorem dX3_findBits_10 : decode cX3_findBits 10 = .ok (.iconst 1, 1) := by decide +kernel
theorem dX3_findBits_11 : decode cX3_findBits 11 = .ok (.iload_n 1, 1) := by decide +kernel
theorem dX3_findBits_12 : decode cX3_findBits 12 = .ok (.ishl, 1) := by decide +kernel
theorem dX3_findBits_13 : decode cX3_findBits 13 = .ok (.iconst (-1), 1) := by decide +kernel
theorem dX3_findBits_14 : decode cX3_findBits 14 = .ok (.ixor, 1) := by decide +kernel
theorem dX3_findBits_15 : decode cX3_findBits 15 = .ok (.iand, 1) := by decide +kernel
theorem dX3_findBits_16 : decode cX3_findBits 16 = .ok (.istore_n 3, 1) := by decide +kernel
theorem dX3_findBits_17 : decode cX3_findBits 17 = .ok (.aload_n 0, 1) := by decide +kernel
theorem dX3_findBits_18 : decode cX3_findBits 18 = .ok (.aload_n 0, 1) := by decide +kernel
theorem dX3_findBits_19 : decode cX3_findBits 19 = .ok (.iload_n 3, 1) := by decide +kernel
theorem dX3_findBits_20 : decode cX3_findBits 20 = .ok (.iload_n 2, 1) := by decide +kernel
theorem dX3_findBits_21 : decode cX3_findBits 21 = .ok (.iand, 1) := by decide +kernel
theorem dX3_findBits_22 : decode cX3_findBits 22 = .ok (.invokevirtual 42, 3) := by decide +kernel
theorem dX3_findBits_25 : decode cX3_findBits 25 = .ok (.putfield 22, 3) := by decide +kernel
theorem dX3_findBits_28 : decode cX3_findBits 28 = .ok (.aload_n 0, 1) := by decide +kernel
theorem dX3_findBits_29 : decode cX3_findBits 29 = .ok (.aload_n 0, 1) := by decide +kernel
theorem dX3_findBits_30 : decode cX3_findBits 30 = .ok (.iload_n 3, 1) := by decide +kernel
theorem dX3_findBits_31 : decode cX3_findBits 31 = .ok (.iload_n 2, 1) := by decide +kernel
theorem dX3_findBits_32 : decode cX3_findBits 32 = .ok (.iconst (-1), 1) := by decide +kernel
theorem dX3_findBits_33 : decode cX3_findBits 33 = .ok (.ixor, 1) := by decide +kernel
theorem dX3_findBits_34 : decode cX3_findBits 34 = .ok (.iand, 1) := by decide +kernel
theorem dX3_findBits_35 : decode cX3_findBits 35 = .ok (.invokevirtual 42, 3) := by decide +kernel
theorem dX3_findBits_38 : decode cX3_findBits 38 = .ok (.putfield 25, 3) := by decide +kernel
theorem dX3_findBits_41 : decode cX3_findBits 41 = .ok (.aload_n 0, 1) := by decide +kernel
theorem dX3_findBits_42 : decode cX3_findBits 42 = .ok (.iconst 0, 1) := by decide +kernel
theorem dX3_findBits_43 : decode cX3_findBits 43 = .ok (.putfield 31, 3) := by decide +kernel
theorem dX3_findBits_46 : decode cX3_findBits 46 = .ok (.iconst 0, 1) := by decide +kernel
theorem dX3_findBits_47 : decode cX3_findBits 47 = .ok (.istore 4, 2) := by decide +kernel
theorem dX3_findBits_49 : decode cX3_findBits 49 = .ok (.iload 4, 2) := by decide +kernel
theorem dX3_findBits_51 : decode cX3_findBits 51 = .ok (.bipush 8, 2) := by decide +kernel
theorem dX3_findBits_53 : decode cX3_findBits 53 = .ok (.if_icmp .ge 77, 3) := by decide +kernel
theorem dX3_findBits_56 : decode cX3_findBits 56 = .ok (.iload_n 3, 1) := by decide +kernel
theorem dX3_findBits_57 : decode cX3_findBits 57 = .ok (.iload 4, 2) := by decide +kernel
theorem dX3_findBits_59 : decode cX3_findBits 59 = .ok (.invokestatic 46, 3) := by decide +kernel
theorem dX3_findBits_62 : decode cX3_findBits 62 = .ok (.ifCond .ne 20, 3) := by decide +kernel
theorem dX3_findBits_65 : decode cX3_findBits 65 = .ok (.aload_n 0, 1) := by decide +kernel
theorem dX3_findBits_66 : decode cX3_findBits 66 = .ok (.getfield 15, 3) := by decide +kernel
theorem dX3_findBits_69 : decode cX3_findBits 69 = .ok (.iload 4, 2) := by decide +kernel
theorem dX3_findBits_71 : decode cX3_findBits 71 = .ok (.aload_n 0, 1) := by decide +kernel
theorem dX3_findBits_72 : decode cX3_findBits 72 = .ok (.getfield 9, 3) := by decide +kernel
theorem dX3_findBits_75 : decode cX3_findBits 75 = .ok (.iload 4, 2) := by decide +kernel
theorem dX3_findBits_77 : decode cX3_findBits 77 = .ok (.iaload, 1) := by decide +kernel
theorem dX3_findBits_78 : decode cX3_findBits 78 = .ok (.iastore, 1) := by decide +kernel
theorem dX3_findBits_79 : decode cX3_findBits 79 = .ok (.goto 30, 3) := by decide +kernel
theorem dX3_findBits_82 : decode cX3_findBits 82 = .ok (.aload_n 0, 1) := by decide +kernel
theorem dX3_findBits_83 : decode cX3_findBits 83 = .ok (.getfield 15, 3) := by decide +kernel
theorem dX3_findBits_86 : decode cX3_findBits 86 = .ok (.iload 4, 2) := by decide +kernel
theorem dX3_findBits_88 : decode cX3_findBits 88 = .ok (.iload_n 2, 1) := by decide +kernel
theorem dX3_findBits_89 : decode cX3_findBits 89 = .ok (.iload 4, 2) := by decide +kernel
theorem dX3_findBits_91 : decode cX3_findBits 91 = .ok (.invokestatic 46, 3) := by decide +kernel
theorem dX3_findBits_94 : decode cX3_findBits 94 = .ok (.ifCond .eq 10, 3) := by decide +kernel
theorem dX3_findBits_97 : decode cX3_findBits 97 = .ok (.aload_n 0, 1) := by decide +kernel
theorem dX3_findBits_98 : decode cX3_findBits 98 = .ok (.getfield 22, 3) := by decide +kernel
theorem dX3_findBits_101 : decode cX3_findBits 101 = .ok (.goto 7, 3) := by decide +kernel
theorem dX3_findBits_104 : decode cX3_findBits 104 = .ok (.aload_n 0, 1) := by decide +kernel
theorem dX3_findBits_105 : decode cX3_findBits 105 = .ok (.getfield 25, 3) := by decide +kernel
theorem dX3_findBits_108 : decode cX3_findBits 108 = .ok (.iastore, 1) := by decide +kernel
theorem dX3_findBits_109 : decode cX3_findBits 109 = .ok (.aload_n 0, 1) := by decide +kernel
theorem dX3_findBits_110 : decode cX3_findBits 110 = .ok (.dup, 1) := by decide +kernel
theorem dX3_findBits_111 : decode cX3_findBits 111 = .ok (.getfield 31, 3) := by decide +kernel
theorem dX3_findBits_114 : decode cX3_findBits 114 = .ok (.aload_n 0, 1) := by decide +kernel
theorem dX3_findBits_115 : decode cX3_findBits 115 = .ok (.iload 4, 2) := by decide +kernel
theorem dX3_findBits_117 : decode cX3_findBits 117 = .ok (.invokevirtual 50, 3) := by decide +kernel
theorem dX3_findBits_120 : decode cX3_findBits 120 = .ok (.iadd, 1) := by decide +kernel
theorem dX3_findBits_121 : decode cX3_findBits 121 = .ok (.putfield 31, 3) := by decide +kernel
theorem dX3_findBits_124 : decode cX3_findBits 124 = .ok (.iinc 4 1, 3) := by decide +kernel
theorem dX3_findBits_127 : decode cX3_findBits 127 = .ok (.goto (-78), 3) := by decide +kernel
theorem dX3_findBits_130 : decode cX3_findBits 130 = .ok (.return_, 1) := by decide +kernel
theorem dX3_sharedBy_0 : decode cX3_sharedBy 0 = .ok (.iload_n 1, 1) := by decide +kernel
theorem dX3_sharedBy_1 : decode cX3_sharedBy 1 = .ok (.ifCond .ne 5, 3) := by decide +kernel
theorem dX3_sharedBy_4 : decode cX3_sharedBy 4 = .ok (.iconst 0, 1) := by decide +kernel
theorem dX3_sharedBy_5 : decode cX3_sharedBy 5 = .ok (.ireturn, 1) := by decide +kernel
theorem dX3_sharedBy_6 : decode cX3_sharedBy 6 = .ok (.bipush 7, 2) := by decide +kernel
theorem dX3_sharedBy_8 : decode cX3_sharedBy 8 = .ok (.istore_n 2, 1) := by decide +kernel
theorem dX3_sharedBy_9 : decode cX3_sharedBy 9 = .ok (.iconst 0, 1) := by decide +kernel
theorem dX3_sharedBy_10 : decode cX3_sharedBy 10 = .ok (.istore_n 3, 1) := by decide +kernel
theorem dX3_sharedBy_11 : decode cX3_sharedBy 11 = .ok (.iload_n 3, 1) := by decide +kernel
theorem dX3_sharedBy_12 : decode cX3_sharedBy 12 = .ok (.bipush 8, 2) := by decide +kernel
theorem dX3_sharedBy_14 : decode cX3_sharedBy 14 = .ok (.if_icmp .ge 26, 3) := by decide +kernel
theorem dX3_sharedBy_17 : decode cX3_sharedBy 17 = .ok (.iload_n 1, 1) := by decide +kernel
theorem dX3_sharedBy_18 : decode cX3_sharedBy 18 = .ok (.iload_n 3, 1) := by decide +kernel
theorem dX3_sharedBy_19 : decode cX3_sharedBy 19 = .ok (.invokestatic 46, 3) := by decide +kernel
theorem dX3_sharedBy_22 : decode cX3_sharedBy 22 = .ok (.ifCond .eq 12, 3) := by decide +kernel
theorem dX3_sharedBy_25 : decode cX3_sharedBy 25 = .ok (.iload_n 2, 1) := by decide +kernel
theorem dX3_sharedBy_26 : decode cX3_sharedBy 26 = .ok (.aload_n 0, 1) := by decide +kernel
theorem dX3_sharedBy_27 : decode cX3_sharedBy 27 = .ok (.getfield 9, 3) := by decide +kernel
theorem dX3_sharedBy_30 : decode cX3_sharedBy 30 = .ok (.iload_n 3, 1) := by decide +kernel
theorem dX3_sharedBy_31 : decode cX3_sharedBy 31 = .ok (.iaload, 1) := by decide +kernel
theorem dX3_sharedBy_32 : decode cX3_sharedBy 32 = .ok (.iand, 1) := by decide +kernel
theorem dX3_sharedBy_33 : decode cX3_sharedBy 33 = .ok (.istore_n 2, 1) := by decide +kernel
theorem dX3_sharedBy_34 : decode cX3_sharedBy 34 = .ok (.iinc 3 1, 3) := by decide +kernel
theorem dX3_sharedBy_37 : decode cX3_sharedBy 37 = .ok (.goto (-26), 3) := by decide +kernel
theorem dX3_sharedBy_40 : decode cX3_sharedBy 40 = .ok (.iload_n 2, 1) := by decide +kernel
theorem dX3_sharedBy_41 : decode cX3_sharedBy 41 = .ok (.ireturn, 1) := by decide +kernel
theorem dX3_lossOf_0 : decode cX3_lossOf 0 = .ok (.aload_n 0, 1) := by decide +kernel
theorem dX3_lossOf_1 : decode cX3_lossOf 1 = .ok (.getfield 9, 3) := by decide +kernel
theorem dX3_lossOf_4 : decode cX3_lossOf 4 = .ok (.iload_n 1, 1) := by decide +kernel
theorem dX3_lossOf_5 : decode cX3_lossOf 5 = .ok (.iaload, 1) := by decide +kernel
theorem dX3_lossOf_6 : decode cX3_lossOf 6 = .ok (.aload_n 0, 1) := by decide +kernel
theorem dX3_lossOf_7 : decode cX3_lossOf 7 = .ok (.getfield 15, 3) := by decide +kernel
theorem dX3_lossOf_10 : decode cX3_lossOf 10 = .ok (.iload_n 1, 1) := by decide +kernel
theorem dX3_lossOf_11 : decode cX3_lossOf 11 = .ok (.iaload, 1) := by decide +kernel
theorem dX3_lossOf_12 : decode cX3_lossOf 12 = .ok (.iconst (-1), 1) := by decide +kernel
theorem dX3_lossOf_13 : decode cX3_lossOf 13 = .ok (.ixor, 1) := by decide +kernel
theorem dX3_lossOf_14 : decode cX3_lossOf 14 = .ok (.iand, 1) := by decide +kernel
theorem dX3_lossOf_15 : decode cX3_lossOf 15 = .ok (.invokestatic 53, 3) := by decide +kernel
theorem dX3_lossOf_18 : decode cX3_lossOf 18 = .ok (.ireturn, 1) := by decide +kernel
theorem dX3_greatestLoser_0 : decode cX3_greatestLoser 0 = .ok (.iconst 0, 1) := by decide +kernel
theorem dX3_greatestLoser_1 : decode cX3_greatestLoser 1 = .ok (.istore_n 1, 1) := by decide +kernel
theorem dX3_greatestLoser_2 : decode cX3_greatestLoser 2 = .ok (.iconst 1, 1) := by decide +kernel
theorem dX3_greatestLoser_3 : decode cX3_greatestLoser 3 = .ok (.istore_n 2, 1) := by decide +kernel
theorem dX3_greatestLoser_4 : decode cX3_greatestLoser 4 = .ok (.iload_n 2, 1) := by decide +kernel
theorem dX3_greatestLoser_5 : decode cX3_greatestLoser 5 = .ok (.bipush 8, 2) := by decide +kernel
theorem dX3_greatestLoser_7 : decode cX3_greatestLoser 7 = .ok (.if_icmp .ge 24, 3) := by decide +kernel
theorem dX3_greatestLoser_10 : decode cX3_greatestLoser 10 = .ok (.aload_n 0, 1) := by decide +kernel
theorem dX3_greatestLoser_11 : decode cX3_greatestLoser 11 = .ok (.iload_n 2, 1) := by decide +kernel
theorem dX3_greatestLoser_12 : decode cX3_greatestLoser 12 = .ok (.invokevirtual 50, 3) := by decide +kernel
theorem dX3_greatestLoser_15 : decode cX3_greatestLoser 15 = .ok (.aload_n 0, 1) := by decide +kernel
theorem dX3_greatestLoser_16 : decode cX3_greatestLoser 16 = .ok (.iload_n 1, 1) := by decide +kernel
theorem dX3_greatestLoser_17 : decode cX3_greatestLoser 17 = .ok (.invokevirtual 50, 3) := by decide +kernel
theorem dX3_greatestLoser_20 : decode cX3_greatestLoser 20 = .ok (.if_icmp .le 5, 3) := by decide +kernel
theorem dX3_greatestLoser_23 : decode cX3_greatestLoser 23 = .ok (.iload_n 2, 1) := by decide +kernel
theorem dX3_greatestLoser_24 : decode cX3_greatestLoser 24 = .ok (.istore_n 1, 1) := by decide +kernel
theorem dX3_greatestLoser_25 : decode cX3_greatestLoser 25 = .ok (.iinc 2 1, 3) := by decide +kernel
theorem dX3_greatestLoser_28 : decode cX3_greatestLoser 28 = .ok (.goto (-24), 3) := by decide +kernel
theorem dX3_greatestLoser_31 : decode cX3_greatestLoser 31 = .ok (.iload_n 1, 1) := by decide +kernel
theorem dX3_greatestLoser_32 : decode cX3_greatestLoser 32 = .ok (.ireturn, 1) := by decide +kernel
theorem dX4_init_0 : decode cX4_init 0 = .ok (.aload_n 0, 1) := by decide +kernel
theorem dX4_init_1 : decode cX4_init 1 = .ok (.invokespecial 3, 3) := by decide +kernel
theorem dX4_init_4 : decode cX4_init 4 = .ok (.aload_n 0, 1) := by decide +kernel
theorem dX4_init_5 : decode cX4_init 5 = .ok (.new 9, 3) := by decide +kernel
theorem dX4_init_8 : decode cX4_init 8 = .ok (.dup, 1) := by decide +kernel
theorem dX4_init_9 : decode cX4_init 9 = .ok (.invokespecial 11, 3) := by decide +kernel
theorem dX4_init_12 : decode cX4_init 12 = .ok (.putfield 12, 3) := by decide +kernel
theorem dX4_init_15 : decode cX4_init 15 = .ok (.aload_n 0, 1) := by decide +kernel
theorem dX4_init_16 : decode cX4_init 16 = .ok (.new 16, 3) := by decide +kernel
theorem dX4_init_19 : decode cX4_init 19 = .ok (.dup, 1) := by decide +kernel
theorem dX4_init_20 : decode cX4_init 20 = .ok (.invokespecial 18, 3) := by decide +kernel
theorem dX4_init_23 : decode cX4_init 23 = .ok (.putfield 19, 3) := by decide +kernel
theorem dX4_init_26 : decode cX4_init 26 = .ok (.aload_n 0, 1) := by decide +kernel
theorem dX4_init_27 : decode cX4_init 27 = .ok (.new 23, 3) := by decide +kernel
theorem dX4_init_30 : decode cX4_init 30 = .ok (.dup, 1) := by decide +kernel
theorem dX4_init_31 : decode cX4_init 31 = .ok (.invokespecial 25, 3) := by decide +kernel
theorem dX4_init_34 : decode cX4_init 34 = .ok (.putfield 26, 3) := by decide +kernel
theorem dX4_init_37 : decode cX4_init 37 = .ok (.aload_n 0, 1) := by decide +kernel
theorem dX4_init_38 : decode cX4_init 38 = .ok (.getfield 19, 3) := by decide +kernel
theorem dX4_init_41 : decode cX4_init 41 = .ok (.new 30, 3) := by decide +kernel
theorem dX4_init_44 : decode cX4_init 44 = .ok (.dup, 1) := by decide +kernel
theorem dX4_init_45 : decode cX4_init 45 = .ok (.aconst_null, 1) := by decide +kernel
theorem dX4_init_46 : decode cX4_init 46 = .ok (.iconst 0, 1) := by decide +kernel
theorem dX4_init_47 : decode cX4_init 47 = .ok (.invokespecial 32, 3) := by decide +kernel
theorem dX4_init_50 : decode cX4_init 50 = .ok (.invokevirtual 35, 3) := by decide +kernel
theorem dX4_init_53 : decode cX4_init 53 = .ok (.pop, 1) := by decide +kernel
theorem dX4_init_54 : decode cX4_init 54 = .ok (.return_, 1) := by decide +kernel
theorem dX4_setMember_0 : decode cX4_setMember 0 = .ok (.iload_n 1, 1) := by decide +kernel
theorem dX4_setMember_1 : decode cX4_setMember 1 = .ok (.invokestatic 39, 3) := by decide +kernel
theorem dX4_setMember_4 : decode cX4_setMember 4 = .ok (.iload_n 2, 1) := by decide +kernel
theorem dX4_setMember_5 : decode cX4_setMember 5 = .ok (.invokestatic 43, 3) := by decide +kernel
theorem dX4_setMember_8 : decode cX4_setMember 8 = .ok (.aload_n 0, 1) := by decide +kernel
theorem dX4_setMember_9 : decode cX4_setMember 9 = .ok (.getfield 12, 3) := by decide +kernel
theorem dX4_setMember_12 : decode cX4_setMember 12 = .ok (.iload_n 1, 1) := by decide +kernel
theorem dX4_setMember_13 : decode cX4_setMember 13 = .ok (.iload_n 2, 1) := by decide +kernel
theorem dX4_setMember_14 : decode cX4_setMember 14 = .ok (.iload_n 3, 1) := by decide +kernel
theorem dX4_setMember_15 : decode cX4_setMember 15 = .ok (.invokevirtual 46, 3) := by decide +kernel
theorem dX4_setMember_18 : decode cX4_setMember 18 = .ok (.ireturn, 1) := by decide +kernel
theorem dX4_nest_0 : decode cX4_nest 0 = .ok (.iload_n 1, 1) := by decide +kernel
theorem dX4_nest_1 : decode cX4_nest 1 = .ok (.invokestatic 39, 3) := by decide +kernel
theorem dX4_nest_4 : decode cX4_nest 4 = .ok (.iload_n 2, 1) := by decide +kernel
theorem dX4_nest_5 : decode cX4_nest 5 = .ok (.invokestatic 39, 3) := by decide +kernel
theorem dX4_nest_8 : decode cX4_nest 8 = .ok (.aload_n 0, 1) := by decide +kernel
theorem dX4_nest_9 : decode cX4_nest 9 = .ok (.getfield 12, 3) := by decide +kernel
theorem dX4_nest_12 : decode cX4_nest 12 = .ok (.iload_n 2, 1) := by decide +kernel
theorem dX4_nest_13 : decode cX4_nest 13 = .ok (.invokevirtual 50, 3) := by decide +kernel
theorem dX4_nest_16 : decode cX4_nest 16 = .ok (.iload_n 1, 1) := by decide +kernel
theorem dX4_nest_17 : decode cX4_nest 17 = .ok (.invokestatic 54, 3) := by decide +kernel
theorem dX4_nest_20 : decode cX4_nest 20 = .ok (.ifCond .eq 13, 3) := by decide +kernel
theorem dX4_nest_23 : decode cX4_nest 23 = .ok (.new 58, 3) := by decide +kernel
theorem dX4_nest_26 : decode cX4_nest 26 = .ok (.dup, 1) := by decide +kernel
theorem dX4_nest_27 : decode cX4_nest 27 = .ok (.ldc 60, 2) := by decide +kernel
theorem dX4_nest_29 : decode cX4_nest 29 = .ok (.invokespecial 62, 3) := by decide +kernel
theorem dX4_nest_32 : decode cX4_nest 32 = .ok (.athrow, 1) := by decide +kernel
theorem dX4_nest_33 : decode cX4_nest 33 = .ok (.aload_n 0, 1) := by decide +kernel
theorem dX4_nest_34 : decode cX4_nest 34 = .ok (.getfield 12, 3) := by decide +kernel
theorem dX4_nest_37 : decode cX4_nest 37 = .ok (.iload_n 1, 1) := by decide +kernel
theorem dX4_nest_38 : decode cX4_nest 38 = .ok (.iload_n 2, 1) := by decide +kernel
theorem dX4_nest_39 : decode cX4_nest 39 = .ok (.invokevirtual 65, 3) := by decide +kernel
theorem dX4_nest_42 : decode cX4_nest 42 = .ok (.ireturn, 1) := by decide +kernel
theorem dX4_members_0 : decode cX4_members 0 = .ok (.iload_n 1, 1) := by decide +kernel
theorem dX4_members_1 : decode cX4_members 1 = .ok (.invokestatic 39, 3) := by decide +kernel
theorem dX4_members_4 : decode cX4_members 4 = .ok (.aload_n 0, 1) := by decide +kernel
theorem dX4_members_5 : decode cX4_members 5 = .ok (.getfield 12, 3) := by decide +kernel
theorem dX4_members_8 : decode cX4_members 8 = .ok (.iload_n 1, 1) := by decide +kernel
theorem dX4_members_9 : decode cX4_members 9 = .ok (.invokevirtual 68, 3) := by decide +kernel
theorem dX4_members_12 : decode cX4_members 12 = .ok (.ireturn, 1) := by decide +kernel
theorem dX4_addFolder_0 : decode cX4_addFolder 0 = .ok (.aload_n 0, 1) := by decide +kernel
theorem dX4_addFolder_1 : decode cX4_addFolder 1 = .ok (.iload_n 1, 1) := by decide +kernel
theorem dX4_addFolder_2 : decode cX4_addFolder 2 = .ok (.invokevirtual 71, 3) := by decide +kernel
theorem dX4_addFolder_5 : decode cX4_addFolder 5 = .ok (.astore_n 3, 1) := by decide +kernel
theorem dX4_addFolder_6 : decode cX4_addFolder 6 = .ok (.iload_n 2, 1) := by decide +kernel
theorem dX4_addFolder_7 : decode cX4_addFolder 7 = .ok (.invokestatic 43, 3) := by decide +kernel
theorem dX4_addFolder_10 : decode cX4_addFolder 10 = .ok (.aload_n 0, 1) := by decide +kernel
theorem dX4_addFolder_11 : decode cX4_addFolder 11 = .ok (.getfield 19, 3) := by decide +kernel
theorem dX4_addFolder_14 : decode cX4_addFolder 14 = .ok (.invokevirtual 75, 3) := by decide +kernel
theorem dX4_addFolder_17 : decode cX4_addFolder 17 = .ok (.bipush 20, 2) := by decide +kernel
theorem dX4_addFolder_19 : decode cX4_addFolder 19 = .ok (.if_icmp .lt 13, 3) := by decide +kernel
theorem dX4_addFolder_22 : decode cX4_addFolder 22 = .ok (.new 58, 3) := by decide +kernel
theorem dX4_addFolder_25 : decode cX4_addFolder 25 = .ok (.dup, 1) := by decide +kernel
theorem dX4_addFolder_26 : decode cX4_addFolder 26 = .ok (.ldc 79, 2) := by decide +kernel
theorem dX4_addFolder_28 : decode cX4_addFolder 28 = .ok (.invokespecial 62, 3) := by decide +kernel
theorem dX4_addFolder_31 : decode cX4_addFolder 31 = .ok (.athrow, 1) := by decide +kernel
theorem dX4_addFolder_32 : decode cX4_addFolder 32 = .ok (.aload_n 0, 1) := by decide +kernel
theorem dX4_addFolder_33 : decode cX4_addFolder 33 = .ok (.getfield 19, 3) := by decide +kernel
theorem dX4_addFolder_36 : decode cX4_addFolder 36 = .ok (.new 30, 3) := by decide +kernel
theorem dX4_addFolder_39 : decode cX4_addFolder 39 = .ok (.dup, 1) := by decide +kernel
theorem dX4_addFolder_40 : decode cX4_addFolder 40 = .ok (.aload_n 3, 1) := by decide +kernel
theorem dX4_addFolder_41 : decode cX4_addFolder 41 = .ok (.iload_n 2, 1) := by decide +kernel
theorem dX4_addFolder_42 : decode cX4_addFolder 42 = .ok (.invokespecial 32, 3) := by decide +kernel
theorem dX4_addFolder_45 : decode cX4_addFolder 45 = .ok (.invokevirtual 35, 3) := by decide +kernel
theorem dX4_addFolder_48 : decode cX4_addFolder 48 = .ok (.pop, 1) := by decide +kernel
theorem dX4_addFolder_49 : decode cX4_addFolder 49 = .ok (.aload_n 0, 1) := by decide +kernel
theorem dX4_addFolder_50 : decode cX4_addFolder 50 = .ok (.getfield 19, 3) := by decide +kernel
theorem dX4_addFolder_53 : decode cX4_addFolder 53 = .ok (.invokevirtual 75, 3) := by decide +kernel
theorem dX4_addFolder_56 : decode cX4_addFolder 56 = .ok (.iconst 1, 1) := by decide +kernel
theorem dX4_addFolder_57 : decode cX4_addFolder 57 = .ok (.isub, 1) := by decide +kernel
theorem dX4_addFolder_58 : decode cX4_addFolder 58 = .ok (.ireturn, 1) := by decide +kernel
theorem dX4_setOwner_0 : decode cX4_setOwner 0 = .ok (.aload_n 0, 1) := by decide +kernel
theorem dX4_setOwner_1 : decode cX4_setOwner 1 = .ok (.iload_n 1, 1) := by decide +kernel
theorem dX4_setOwner_2 : decode cX4_setOwner 2 = .ok (.invokevirtual 71, 3) := by decide +kernel
theorem dX4_setOwner_5 : decode cX4_setOwner 5 = .ok (.astore_n 3, 1) := by decide +kernel
theorem dX4_setOwner_6 : decode cX4_setOwner 6 = .ok (.iload_n 2, 1) := by decide +kernel
theorem dX4_setOwner_7 : decode cX4_setOwner 7 = .ok (.invokestatic 43, 3) := by decide +kernel
theorem dX4_setOwner_10 : decode cX4_setOwner 10 = .ok (.aload_n 3, 1) := by decide +kernel
theorem dX4_setOwner_11 : decode cX4_setOwner 11 = .ok (.getfield 81, 3) := by decide +kernel
theorem dX4_setOwner_14 : decode cX4_setOwner 14 = .ok (.istore 4, 2) := by decide +kernel
theorem dX4_setOwner_16 : decode cX4_setOwner 16 = .ok (.aload_n 3, 1) := by decide +kernel
theorem dX4_setOwner_17 : decode cX4_setOwner 17 = .ok (.iload_n 2, 1) := by decide +kernel
theorem dX4_setOwner_18 : decode cX4_setOwner 18 = .ok (.putfield 81, 3) := by decide +kernel
theorem dX4_setOwner_21 : decode cX4_setOwner 21 = .ok (.iload 4, 2) := by decide +kernel
theorem dX4_setOwner_23 : decode cX4_setOwner 23 = .ok (.ireturn, 1) := by decide +kernel
theorem dX4_setInherits_0 : decode cX4_setInherits 0 = .ok (.aload_n 0, 1) := by decide +kernel
theorem dX4_setInherits_1 : decode cX4_setInherits 1 = .ok (.iload_n 1, 1) := by decide +kernel
theorem dX4_setInherits_2 : decode cX4_setInherits 2 = .ok (.invokevirtual 71, 3) := by decide +kernel
theorem dX4_setInherits_5 : decode cX4_setInherits 5 = .ok (.astore_n 3, 1) := by decide +kernel
theorem dX4_setInherits_6 : decode cX4_setInherits 6 = .ok (.aload_n 3, 1) := by decide +kernel
theorem dX4_setInherits_7 : decode cX4_setInherits 7 = .ok (.getfield 85, 3) := by decide +kernel
theorem dX4_setInherits_10 : decode cX4_setInherits 10 = .ok (.istore 4, 2) := by decide +kernel
theorem dX4_setInherits_12 : decode cX4_setInherits 12 = .ok (.aload_n 3, 1) := by decide +kernel
theorem dX4_setInherits_13 : decode cX4_setInherits 13 = .ok (.iload_n 2, 1) := by decide +kernel
theorem dX4_setInherits_14 : decode cX4_setInherits 14 = .ok (.putfield 85, 3) := by decide +kernel
theorem dX4_setInherits_17 : decode cX4_setInherits 17 = .ok (.iload 4, 2) := by decide +kernel
theorem dX4_setInherits_19 : decode cX4_setInherits 19 = .ok (.ireturn, 1) := by decide +kernel
theorem dX4_allow_0 : decode cX4_allow 0 = .ok (.aload_n 0, 1) := by decide +kernel
theorem dX4_allow_1 : decode cX4_allow 1 = .ok (.iload_n 1, 1) := by decide +kernel
theorem dX4_allow_2 : decode cX4_allow 2 = .ok (.invokevirtual 71, 3) := by decide +kernel
theorem dX4_allow_5 : decode cX4_allow 5 = .ok (.astore 6, 2) := by decide +kernel
theorem dX4_allow_7 : decode cX4_allow 7 = .ok (.iload_n 2, 1) := by decide +kernel
theorem dX4_allow_8 : decode cX4_allow 8 = .ok (.ifCond .lt 9, 3) := by decide +kernel
theorem dX4_allow_11 : decode cX4_allow 11 = .ok (.iload_n 2, 1) := by decide +kernel
theorem dX4_allow_12 : decode cX4_allow 12 = .ok (.bipush 14, 2) := by decide +kernel
theorem dX4_allow_14 : decode cX4_allow 14 = .ok (.if_icmp .lt 13, 3) := by decide +kernel
theorem dX4_allow_17 : decode cX4_allow 17 = .ok (.new 89, 3) := by decide +kernel
theorem dX4_allow_20 : decode cX4_allow 20 = .ok (.dup, 1) := by decide +kernel
theorem dX4_allow_21 : decode cX4_allow 21 = .ok (.ldc 91, 2) := by decide +kernel
theorem dX4_allow_23 : decode cX4_allow 23 = .ok (.invokespecial 93, 3) := by decide +kernel
theorem dX4_allow_26 : decode cX4_allow 26 = .ok (.athrow, 1) := by decide +kernel
theorem dX4_allow_27 : decode cX4_allow 27 = .ok (.iload 4, 2) := by decide +kernel
theorem dX4_allow_29 : decode cX4_allow 29 = .ok (.iconst 1, 1) := by decide +kernel
theorem dX4_allow_30 : decode cX4_allow 30 = .ok (.if_icmp .lt 21, 3) := by decide +kernel
theorem dX4_allow_33 : decode cX4_allow 33 = .ok (.iload 4, 2) := by decide +kernel
theorem dX4_allow_35 : decode cX4_allow 35 = .ok (.bipush 7, 2) := by decide +kernel
theorem dX4_allow_37 : decode cX4_allow 37 = .ok (.if_icmp .gt 14, 3) := by decide +kernel
theorem dX4_allow_40 : decode cX4_allow 40 = .ok (.iload 5, 2) := by decide +kernel
theorem dX4_allow_42 : decode cX4_allow 42 = .ok (.ifCond .lt 9, 3) := by decide +kernel
theorem dX4_allow_45 : decode cX4_allow 45 = .ok (.iload 5, 2) := by decide +kernel
theorem dX4_allow_47 : decode cX4_allow 47 = .ok (.iconst 2, 1) := by decide +kernel
theorem dX4_allow_48 : decode cX4_allow 48 = .ok (.if_icmp .le 13, 3) := by decide +kernel
theorem dX4_allow_51 : decode cX4_allow 51 = .ok (.new 94, 3) := by decide +kernel
theorem dX4_allow_54 : decode cX4_allow 54 = .ok (.dup, 1) := by decide +kernel
theorem dX4_allow_55 : decode cX4_allow 55 = .ok (.ldc 96, 2) := by decide +kernel
theorem dX4_allow_57 : decode cX4_allow 57 = .ok (.invokespecial 98, 3) := by decide +kernel
theorem dX4_allow_60 : decode cX4_allow 60 = .ok (.athrow, 1) := by decide +kernel
theorem dX4_allow_61 : decode cX4_allow 61 = .ok (.aload 6, 2) := by decide +kernel
theorem dX4_allow_63 : decode cX4_allow 63 = .ok (.getfield 99, 3) := by decide +kernel
theorem dX4_allow_66 : decode cX4_allow 66 = .ok (.invokevirtual 75, 3) := by decide +kernel
theorem dX4_allow_69 : decode cX4_allow 69 = .ok (.bipush 6, 2) := by decide +kernel
theorem dX4_allow_71 : decode cX4_allow 71 = .ok (.if_icmp .lt 13, 3) := by decide +kernel
theorem dX4_allow_74 : decode cX4_allow 74 = .ok (.new 58, 3) := by decide +kernel
theorem dX4_allow_77 : decode cX4_allow 77 = .ok (.dup, 1) := by decide +kernel
theorem dX4_allow_78 : decode cX4_allow 78 = .ok (.ldc 102, 2) := by decide +kernel
theorem dX4_allow_80 : decode cX4_allow 80 = .ok (.invokespecial 62, 3) := by decide +kernel
theorem dX4_allow_83 : decode cX4_allow 83 = .ok (.athrow, 1) := by decide +kernel
theorem dX4_allow_84 : decode cX4_allow 84 = .ok (.aload 6, 2) := by decide +kernel
theorem dX4_allow_86 : decode cX4_allow 86 = .ok (.getfield 99, 3) := by decide +kernel
theorem dX4_allow_89 : decode cX4_allow 89 = .ok (.new 104, 3) := by decide +kernel
theorem dX4_allow_92 : decode cX4_allow 92 = .ok (.dup, 1) := by decide +kernel
theorem dX4_allow_93 : decode cX4_allow 93 = .ok (.iload_n 2, 1) := by decide +kernel
theorem dX4_allow_94 : decode cX4_allow 94 = .ok (.iload_n 3, 1) := by decide +kernel
theorem dX4_allow_95 : decode cX4_allow 95 = .ok (.iload 4, 2) := by decide +kernel
theorem dX4_allow_97 : decode cX4_allow 97 = .ok (.iload 5, 2) := by decide +kernel
theorem dX4_allow_99 : decode cX4_allow 99 = .ok (.invokespecial 106, 3) := by decide +kernel
theorem dX4_allow_102 : decode cX4_allow 102 = .ok (.invokevirtual 35, 3) := by decide +kernel
theorem dX4_allow_105 : decode cX4_allow 105 = .ok (.pop, 1) := by decide +kernel
theorem dX4_allow_106 : decode cX4_allow 106 = .ok (.aload 6, 2) := by decide +kernel
theorem dX4_allow_108 : decode cX4_allow 108 = .ok (.getfield 99, 3) := by decide +kernel
theorem dX4_allow_111 : decode cX4_allow 111 = .ok (.invokevirtual 75, 3) := by decide +kernel
theorem dX4_allow_114 : decode cX4_allow 114 = .ok (.ireturn, 1) := by decide +kernel
theorem dX4_drop_0 : decode cX4_drop 0 = .ok (.aload_n 0, 1) := by decide +kernel
theorem dX4_drop_1 : decode cX4_drop 1 = .ok (.iload_n 1, 1) := by decide +kernel
theorem dX4_drop_2 : decode cX4_drop 2 = .ok (.invokevirtual 71, 3) := by decide +kernel
theorem dX4_drop_5 : decode cX4_drop 5 = .ok (.astore_n 3, 1) := by decide +kernel
theorem dX4_drop_6 : decode cX4_drop 6 = .ok (.iload_n 2, 1) := by decide +kernel
theorem dX4_drop_7 : decode cX4_drop 7 = .ok (.ifCond .lt 14, 3) := by decide +kernel
theorem dX4_drop_10 : decode cX4_drop 10 = .ok (.iload_n 2, 1) := by decide +kernel
theorem dX4_drop_11 : decode cX4_drop 11 = .ok (.aload_n 3, 1) := by decide +kernel
theorem dX4_drop_12 : decode cX4_drop 12 = .ok (.getfield 99, 3) := by decide +kernel
theorem dX4_drop_15 : decode cX4_drop 15 = .ok (.invokevirtual 75, 3) := by decide +kernel
theorem dX4_drop_18 : decode cX4_drop 18 = .ok (.if_icmp .lt 13, 3) := by decide +kernel
theorem dX4_drop_21 : decode cX4_drop 21 = .ok (.new 89, 3) := by decide +kernel
theorem dX4_drop_24 : decode cX4_drop 24 = .ok (.dup, 1) := by decide +kernel
theorem dX4_drop_25 : decode cX4_drop 25 = .ok (.ldc 109, 2) := by decide +kernel
theorem dX4_drop_27 : decode cX4_drop 27 = .ok (.invokespecial 93, 3) := by decide +kernel
theorem dX4_drop_30 : decode cX4_drop 30 = .ok (.athrow, 1) := by decide +kernel
theorem dX4_drop_31 : decode cX4_drop 31 = .ok (.aload_n 3, 1) := by decide +kernel
theorem dX4_drop_32 : decode cX4_drop 32 = .ok (.getfield 99, 3) := by decide +kernel
theorem dX4_drop_35 : decode cX4_drop 35 = .ok (.iload_n 2, 1) := by decide +kernel
theorem dX4_drop_36 : decode cX4_drop 36 = .ok (.invokevirtual 111, 3) := by decide +kernel
theorem dX4_drop_39 : decode cX4_drop 39 = .ok (.checkcast 104, 3) := by decide +kernel
theorem dX4_drop_42 : decode cX4_drop 42 = .ok (.getfield 115, 3) := by decide +kernel
theorem dX4_drop_45 : decode cX4_drop 45 = .ok (.ireturn, 1) := by decide +kernel
theorem dX4_folders_0 : decode cX4_folders 0 = .ok (.aload_n 0, 1) := by decide +kernel
theorem dX4_folders_1 : decode cX4_folders 1 = .ok (.getfield 19, 3) := by decide +kernel
theorem dX4_folders_4 : decode cX4_folders 4 = .ok (.invokevirtual 75, 3) := by decide +kernel
theorem dX4_folders_7 : decode cX4_folders 7 = .ok (.ireturn, 1) := by decide +kernel
theorem dX4_rights_0 : decode cX4_rights 0 = .ok (.iload_n 1, 1) := by decide +kernel
theorem dX4_rights_1 : decode cX4_rights 1 = .ok (.invokestatic 43, 3) := by decide +kernel
theorem dX4_rights_4 : decode cX4_rights 4 = .ok (.aload_n 0, 1) := by decide +kernel
theorem dX4_rights_5 : decode cX4_rights 5 = .ok (.iload_n 1, 1) := by decide +kernel
theorem dX4_rights_6 : decode cX4_rights 6 = .ok (.aload_n 0, 1) := by decide +kernel
theorem dX4_rights_7 : decode cX4_rights 7 = .ok (.iload_n 2, 1) := by decide +kernel
theorem dX4_rights_8 : decode cX4_rights 8 = .ok (.invokevirtual 71, 3) := by decide +kernel
theorem dX4_rights_11 : decode cX4_rights 11 = .ok (.invokevirtual 118, 3) := by decide +kernel
theorem dX4_rights_14 : decode cX4_rights 14 = .ok (.ireturn, 1) := by decide +kernel
theorem dX4_rightsBackwards_0 : decode cX4_rightsBackwards 0 = .ok (.iload_n 1, 1) := by decide +kernel
theorem dX4_rightsBackwards_1 : decode cX4_rightsBackwards 1 = .ok (.invokestatic 43, 3) := by decide +kernel
theorem dX4_rightsBackwards_4 : decode cX4_rightsBackwards 4 = .ok (.aload_n 0, 1) := by decide +kernel
theorem dX4_rightsBackwards_5 : decode cX4_rightsBackwards 5 = .ok (.iload_n 1, 1) := by decide +kernel
theorem dX4_rightsBackwards_6 : decode cX4_rightsBackwards 6 = .ok (.aload_n 0, 1) := by decide +kernel
theorem dX4_rightsBackwards_7 : decode cX4_rightsBackwards 7 = .ok (.iload_n 2, 1) := by decide +kernel
theorem dX4_rightsBackwards_8 : decode cX4_rightsBackwards 8 = .ok (.invokevirtual 71, 3) := by decide +kernel
theorem dX4_rightsBackwards_11 : decode cX4_rightsBackwards 11 = .ok (.invokevirtual 122, 3) := by decide +kernel
theorem dX4_rightsBackwards_14 : decode cX4_rightsBackwards 14 = .ok (.ireturn, 1) := by decide +kernel
theorem dX4_groupOf_0 : decode cX4_groupOf 0 = .ok (.aload_n 0, 1) := by decide +kernel
theorem dX4_groupOf_1 : decode cX4_groupOf 1 = .ok (.aload_n 0, 1) := by decide +kernel
theorem dX4_groupOf_2 : decode cX4_groupOf 2 = .ok (.iload_n 1, 1) := by decide +kernel
theorem dX4_groupOf_3 : decode cX4_groupOf 3 = .ok (.invokevirtual 71, 3) := by decide +kernel
theorem dX4_groupOf_6 : decode cX4_groupOf 6 = .ok (.invokevirtual 125, 3) := by decide +kernel
theorem dX4_groupOf_9 : decode cX4_groupOf 9 = .ok (.getfield 129, 3) := by decide +kernel
theorem dX4_groupOf_12 : decode cX4_groupOf 12 = .ok (.ireturn, 1) := by decide +kernel
theorem dX4_named_0 : decode cX4_named 0 = .ok (.aload_n 0, 1) := by decide +kernel
theorem dX4_named_1 : decode cX4_named 1 = .ok (.aload_n 0, 1) := by decide +kernel
theorem dX4_named_2 : decode cX4_named 2 = .ok (.iload_n 1, 1) := by decide +kernel
theorem dX4_named_3 : decode cX4_named 3 = .ok (.invokevirtual 71, 3) := by decide +kernel
theorem dX4_named_6 : decode cX4_named 6 = .ok (.invokevirtual 125, 3) := by decide +kernel
theorem dX4_named_9 : decode cX4_named 9 = .ok (.getfield 138, 3) := by decide +kernel
theorem dX4_named_12 : decode cX4_named 12 = .ok (.ireturn, 1) := by decide +kernel
theorem dX4_mapped_0 : decode cX4_mapped 0 = .ok (.iload_n 1, 1) := by decide +kernel
theorem dX4_mapped_1 : decode cX4_mapped 1 = .ok (.invokestatic 43, 3) := by decide +kernel
theorem dX4_mapped_4 : decode cX4_mapped 4 = .ok (.aload_n 0, 1) := by decide +kernel
theorem dX4_mapped_5 : decode cX4_mapped 5 = .ok (.aload_n 0, 1) := by decide +kernel
theorem dX4_mapped_6 : decode cX4_mapped 6 = .ok (.iload_n 2, 1) := by decide +kernel
theorem dX4_mapped_7 : decode cX4_mapped 7 = .ok (.invokevirtual 71, 3) := by decide +kernel
theorem dX4_mapped_10 : decode cX4_mapped 10 = .ok (.invokevirtual 125, 3) := by decide +kernel
theorem dX4_mapped_13 : decode cX4_mapped 13 = .ok (.getfield 141, 3) := by decide +kernel
theorem dX4_mapped_16 : decode cX4_mapped 16 = .ok (.iload_n 1, 1) := by decide +kernel
theorem dX4_mapped_17 : decode cX4_mapped 17 = .ok (.iaload, 1) := by decide +kernel
theorem dX4_mapped_18 : decode cX4_mapped 18 = .ok (.ireturn, 1) := by decide +kernel
theorem dX4_loss_0 : decode cX4_loss 0 = .ok (.aload_n 0, 1) := by decide +kernel
theorem dX4_loss_1 : decode cX4_loss 1 = .ok (.aload_n 0, 1) := by decide +kernel
theorem dX4_loss_2 : decode cX4_loss 2 = .ok (.iload_n 1, 1) := by decide +kernel
theorem dX4_loss_3 : decode cX4_loss 3 = .ok (.invokevirtual 71, 3) := by decide +kernel
theorem dX4_loss_6 : decode cX4_loss 6 = .ok (.invokevirtual 125, 3) := by decide +kernel
theorem dX4_loss_9 : decode cX4_loss 9 = .ok (.getfield 145, 3) := by decide +kernel
theorem dX4_loss_12 : decode cX4_loss 12 = .ok (.ireturn, 1) := by decide +kernel
theorem dX4_lossWith_0 : decode cX4_lossWith 0 = .ok (.aload_n 0, 1) := by decide +kernel
theorem dX4_lossWith_1 : decode cX4_lossWith 1 = .ok (.iload_n 1, 1) := by decide +kernel
theorem dX4_lossWith_2 : decode cX4_lossWith 2 = .ok (.invokevirtual 71, 3) := by decide +kernel
