theorem dX4_lossWith_5 : decode cX4_lossWith 5 = .ok (.astore_n 3, 1) := by decide +kernel
theorem dX4_lossWith_6 : decode cX4_lossWith 6 = .ok (.iload_n 2, 1) := by decide +kernel
theorem dX4_lossWith_7 : decode cX4_lossWith 7 = .ok (.iconst (-1), 1) := by decide +kernel
theorem dX4_lossWith_8 : decode cX4_lossWith 8 = .ok (.if_icmp .eq 7, 3) := by decide +kernel
theorem dX4_lossWith_11 : decode cX4_lossWith 11 = .ok (.iload_n 2, 1) := by decide +kernel
theorem dX4_lossWith_12 : decode cX4_lossWith 12 = .ok (.invokestatic 39, 3) := by decide +kernel
theorem dX4_lossWith_15 : decode cX4_lossWith 15 = .ok (.aload_n 0, 1) := by decide +kernel
theorem dX4_lossWith_16 : decode cX4_lossWith 16 = .ok (.aload_n 3, 1) := by decide +kernel
theorem dX4_lossWith_17 : decode cX4_lossWith 17 = .ok (.invokevirtual 148, 3) := by decide +kernel
theorem dX4_lossWith_20 : decode cX4_lossWith 20 = .ok (.aload_n 0, 1) := by decide +kernel
theorem dX4_lossWith_21 : decode cX4_lossWith 21 = .ok (.aload_n 3, 1) := by decide +kernel
theorem dX4_lossWith_22 : decode cX4_lossWith 22 = .ok (.iload_n 2, 1) := by decide +kernel
theorem dX4_lossWith_23 : decode cX4_lossWith 23 = .ok (.invokevirtual 152, 3) := by decide +kernel
theorem dX4_lossWith_26 : decode cX4_lossWith 26 = .ok (.aload_n 0, 1) := by decide +kernel
theorem dX4_lossWith_27 : decode cX4_lossWith 27 = .ok (.getfield 26, 3) := by decide +kernel
theorem dX4_lossWith_30 : decode cX4_lossWith 30 = .ok (.getfield 145, 3) := by decide +kernel
theorem dX4_lossWith_33 : decode cX4_lossWith 33 = .ok (.ireturn, 1) := by decide +kernel
theorem dX4_pass_0 : decode cX4_pass 0 = .ok (.iconst 0, 1) := by decide +kernel
theorem dX4_pass_1 : decode cX4_pass 1 = .ok (.istore_n 1, 1) := by decide +kernel
theorem dX4_pass_2 : decode cX4_pass 2 = .ok (.iconst 0, 1) := by decide +kernel
theorem dX4_pass_3 : decode cX4_pass 3 = .ok (.istore_n 2, 1) := by decide +kernel
theorem dX4_pass_4 : decode cX4_pass 4 = .ok (.iload_n 2, 1) := by decide +kernel
theorem dX4_pass_5 : decode cX4_pass 5 = .ok (.aload_n 0, 1) := by decide +kernel
theorem dX4_pass_6 : decode cX4_pass 6 = .ok (.getfield 19, 3) := by decide +kernel
theorem dX4_pass_9 : decode cX4_pass 9 = .ok (.invokevirtual 75, 3) := by decide +kernel
theorem dX4_pass_12 : decode cX4_pass 12 = .ok (.if_icmp .ge 39, 3) := by decide +kernel
theorem dX4_pass_15 : decode cX4_pass 15 = .ok (.aload_n 0, 1) := by decide +kernel
theorem dX4_pass_16 : decode cX4_pass 16 = .ok (.getfield 19, 3) := by decide +kernel
theorem dX4_pass_19 : decode cX4_pass 19 = .ok (.iload_n 2, 1) := by decide +kernel
theorem dX4_pass_20 : decode cX4_pass 20 = .ok (.invokevirtual 155, 3) := by decide +kernel
theorem dX4_pass_23 : decode cX4_pass 23 = .ok (.checkcast 30, 3) := by decide +kernel
theorem dX4_pass_26 : decode cX4_pass 26 = .ok (.astore_n 3, 1) := by decide +kernel
theorem dX4_pass_27 : decode cX4_pass 27 = .ok (.aload_n 3, 1) := by decide +kernel
theorem dX4_pass_28 : decode cX4_pass 28 = .ok (.aload_n 0, 1) := by decide +kernel
theorem dX4_pass_29 : decode cX4_pass 29 = .ok (.aload_n 3, 1) := by decide +kernel
theorem dX4_pass_30 : decode cX4_pass 30 = .ok (.invokevirtual 125, 3) := by decide +kernel
theorem dX4_pass_33 : decode cX4_pass 33 = .ok (.getfield 141, 3) := by decide +kernel
theorem dX4_pass_36 : decode cX4_pass 36 = .ok (.invokevirtual 158, 3) := by decide +kernel
theorem dX4_pass_39 : decode cX4_pass 39 = .ok (.ifCond .eq 6, 3) := by decide +kernel
theorem dX4_pass_42 : decode cX4_pass 42 = .ok (.iinc 1 1, 3) := by decide +kernel
theorem dX4_pass_45 : decode cX4_pass 45 = .ok (.iinc 2 1, 3) := by decide +kernel
theorem dX4_pass_48 : decode cX4_pass 48 = .ok (.goto (-44), 3) := by decide +kernel
theorem dX4_pass_51 : decode cX4_pass 51 = .ok (.iload_n 1, 1) := by decide +kernel
theorem dX4_pass_52 : decode cX4_pass 52 = .ok (.ireturn, 1) := by decide +kernel
theorem dX4_isFresh_0 : decode cX4_isFresh 0 = .ok (.aload_n 0, 1) := by decide +kernel
theorem dX4_isFresh_1 : decode cX4_isFresh 1 = .ok (.iload_n 1, 1) := by decide +kernel
theorem dX4_isFresh_2 : decode cX4_isFresh 2 = .ok (.invokevirtual 71, 3) := by decide +kernel
theorem dX4_isFresh_5 : decode cX4_isFresh 5 = .ok (.astore_n 2, 1) := by decide +kernel
theorem dX4_isFresh_6 : decode cX4_isFresh 6 = .ok (.aload_n 2, 1) := by decide +kernel
theorem dX4_isFresh_7 : decode cX4_isFresh 7 = .ok (.aload_n 0, 1) := by decide +kernel
theorem dX4_isFresh_8 : decode cX4_isFresh 8 = .ok (.aload_n 2, 1) := by decide +kernel
theorem dX4_isFresh_9 : decode cX4_isFresh 9 = .ok (.invokevirtual 125, 3) := by decide +kernel
theorem dX4_isFresh_12 : decode cX4_isFresh 12 = .ok (.getfield 141, 3) := by decide +kernel
theorem dX4_isFresh_15 : decode cX4_isFresh 15 = .ok (.invokevirtual 162, 3) := by decide +kernel
theorem dX4_isFresh_18 : decode cX4_isFresh 18 = .ok (.ireturn, 1) := by decide +kernel
theorem dX4_turn_0 : decode cX4_turn 0 = .ok (.aload_n 0, 1) := by decide +kernel
theorem dX4_turn_1 : decode cX4_turn 1 = .ok (.iload_n 1, 1) := by decide +kernel
theorem dX4_turn_2 : decode cX4_turn 2 = .ok (.invokevirtual 71, 3) := by decide +kernel
theorem dX4_turn_5 : decode cX4_turn 5 = .ok (.astore_n 2, 1) := by decide +kernel
theorem dX4_turn_6 : decode cX4_turn 6 = .ok (.aload_n 2, 1) := by decide +kernel
theorem dX4_turn_7 : decode cX4_turn 7 = .ok (.getfield 165, 3) := by decide +kernel
theorem dX4_turn_10 : decode cX4_turn 10 = .ok (.ifCond .ne 13, 3) := by decide +kernel
theorem dX4_turn_13 : decode cX4_turn 13 = .ok (.new 58, 3) := by decide +kernel
theorem dX4_turn_16 : decode cX4_turn 16 = .ok (.dup, 1) := by decide +kernel
theorem dX4_turn_17 : decode cX4_turn 17 = .ok (.ldc 168, 2) := by decide +kernel
theorem dX4_turn_19 : decode cX4_turn 19 = .ok (.invokespecial 62, 3) := by decide +kernel
theorem dX4_turn_22 : decode cX4_turn 22 = .ok (.athrow, 1) := by decide +kernel
theorem dX4_turn_23 : decode cX4_turn 23 = .ok (.aload_n 2, 1) := by decide +kernel
theorem dX4_turn_24 : decode cX4_turn 24 = .ok (.aload_n 2, 1) := by decide +kernel
theorem dX4_turn_25 : decode cX4_turn 25 = .ok (.getfield 170, 3) := by decide +kernel
theorem dX4_turn_28 : decode cX4_turn 28 = .ok (.ifCond .ne 7, 3) := by decide +kernel
theorem dX4_turn_31 : decode cX4_turn 31 = .ok (.iconst 1, 1) := by decide +kernel
theorem dX4_turn_32 : decode cX4_turn 32 = .ok (.goto 4, 3) := by decide +kernel
theorem dX4_turn_35 : decode cX4_turn 35 = .ok (.iconst 0, 1) := by decide +kernel
theorem dX4_turn_36 : decode cX4_turn 36 = .ok (.putfield 170, 3) := by decide +kernel
theorem dX4_turn_39 : decode cX4_turn 39 = .ok (.aload_n 2, 1) := by decide +kernel
theorem dX4_turn_40 : decode cX4_turn 40 = .ok (.getfield 170, 3) := by decide +kernel
theorem dX4_turn_43 : decode cX4_turn 43 = .ok (.ireturn, 1) := by decide +kernel
theorem dX4_rightsNow_0 : decode cX4_rightsNow 0 = .ok (.iload_n 1, 1) := by decide +kernel
theorem dX4_rightsNow_1 : decode cX4_rightsNow 1 = .ok (.invokestatic 43, 3) := by decide +kernel
theorem dX4_rightsNow_4 : decode cX4_rightsNow 4 = .ok (.aload_n 0, 1) := by decide +kernel
theorem dX4_rightsNow_5 : decode cX4_rightsNow 5 = .ok (.iload_n 1, 1) := by decide +kernel
theorem dX4_rightsNow_6 : decode cX4_rightsNow 6 = .ok (.aload_n 0, 1) := by decide +kernel
theorem dX4_rightsNow_7 : decode cX4_rightsNow 7 = .ok (.iload_n 2, 1) := by decide +kernel
theorem dX4_rightsNow_8 : decode cX4_rightsNow 8 = .ok (.invokevirtual 71, 3) := by decide +kernel
theorem dX4_rightsNow_11 : decode cX4_rightsNow 11 = .ok (.invokevirtual 173, 3) := by decide +kernel
theorem dX4_rightsNow_14 : decode cX4_rightsNow 14 = .ok (.ireturn, 1) := by decide +kernel
theorem dX4_gainers_0 : decode cX4_gainers 0 = .ok (.aload_n 0, 1) := by decide +kernel
theorem dX4_gainers_1 : decode cX4_gainers 1 = .ok (.iload_n 1, 1) := by decide +kernel
theorem dX4_gainers_2 : decode cX4_gainers 2 = .ok (.invokevirtual 71, 3) := by decide +kernel
theorem dX4_gainers_5 : decode cX4_gainers 5 = .ok (.astore_n 2, 1) := by decide +kernel
theorem dX4_gainers_6 : decode cX4_gainers 6 = .ok (.iconst 0, 1) := by decide +kernel
theorem dX4_gainers_7 : decode cX4_gainers 7 = .ok (.istore_n 3, 1) := by decide +kernel
theorem dX4_gainers_8 : decode cX4_gainers 8 = .ok (.iconst 0, 1) := by decide +kernel
theorem dX4_gainers_9 : decode cX4_gainers 9 = .ok (.istore 4, 2) := by decide +kernel
theorem dX4_gainers_11 : decode cX4_gainers 11 = .ok (.iload 4, 2) := by decide +kernel
theorem dX4_gainers_13 : decode cX4_gainers 13 = .ok (.bipush 8, 2) := by decide +kernel
theorem dX4_gainers_15 : decode cX4_gainers 15 = .ok (.if_icmp .ge 36, 3) := by decide +kernel
theorem dX4_gainers_18 : decode cX4_gainers 18 = .ok (.aload_n 0, 1) := by decide +kernel
theorem dX4_gainers_19 : decode cX4_gainers 19 = .ok (.iload 4, 2) := by decide +kernel
theorem dX4_gainers_21 : decode cX4_gainers 21 = .ok (.aload_n 2, 1) := by decide +kernel
theorem dX4_gainers_22 : decode cX4_gainers 22 = .ok (.invokevirtual 173, 3) := by decide +kernel
theorem dX4_gainers_25 : decode cX4_gainers 25 = .ok (.aload_n 0, 1) := by decide +kernel
theorem dX4_gainers_26 : decode cX4_gainers 26 = .ok (.iload 4, 2) := by decide +kernel
theorem dX4_gainers_28 : decode cX4_gainers 28 = .ok (.aload_n 2, 1) := by decide +kernel
theorem dX4_gainers_29 : decode cX4_gainers 29 = .ok (.invokevirtual 118, 3) := by decide +kernel
theorem dX4_gainers_32 : decode cX4_gainers 32 = .ok (.iconst (-1), 1) := by decide +kernel
theorem dX4_gainers_33 : decode cX4_gainers 33 = .ok (.ixor, 1) := by decide +kernel
theorem dX4_gainers_34 : decode cX4_gainers 34 = .ok (.iand, 1) := by decide +kernel
theorem dX4_gainers_35 : decode cX4_gainers 35 = .ok (.ifCond .eq 10, 3) := by decide +kernel
theorem dX4_gainers_38 : decode cX4_gainers 38 = .ok (.iload_n 3, 1) := by decide +kernel
theorem dX4_gainers_39 : decode cX4_gainers 39 = .ok (.iconst 1, 1) := by decide +kernel
theorem dX4_gainers_40 : decode cX4_gainers 40 = .ok (.iload 4, 2) := by decide +kernel
theorem dX4_gainers_42 : decode cX4_gainers 42 = .ok (.ishl, 1) := by decide +kernel
theorem dX4_gainers_43 : decode cX4_gainers 43 = .ok (.ior, 1) := by decide +kernel
theorem dX4_gainers_44 : decode cX4_gainers 44 = .ok (.istore_n 3, 1) := by decide +kernel
theorem dX4_gainers_45 : decode cX4_gainers 45 = .ok (.iinc 4 1, 3) := by decide +kernel
theorem dX4_gainers_48 : decode cX4_gainers 48 = .ok (.goto (-37), 3) := by decide +kernel
theorem dX4_gainers_51 : decode cX4_gainers 51 = .ok (.iload_n 3, 1) := by decide +kernel
theorem dX4_gainers_52 : decode cX4_gainers 52 = .ok (.ireturn, 1) := by decide +kernel
theorem dX4_refuseNoPerson_0 : decode cX4_refuseNoPerson 0 = .ok (.iload_n 0, 1) := by decide +kernel
theorem dX4_refuseNoPerson_1 : decode cX4_refuseNoPerson 1 = .ok (.ifCond .lt 9, 3) := by decide +kernel
theorem dX4_refuseNoPerson_4 : decode cX4_refuseNoPerson 4 = .ok (.iload_n 0, 1) := by decide +kernel
theorem dX4_refuseNoPerson_5 : decode cX4_refuseNoPerson 5 = .ok (.bipush 8, 2) := by decide +kernel
theorem dX4_refuseNoPerson_7 : decode cX4_refuseNoPerson 7 = .ok (.if_icmp .lt 13, 3) := by decide +kernel
theorem dX4_refuseNoPerson_10 : decode cX4_refuseNoPerson 10 = .ok (.new 89, 3) := by decide +kernel
theorem dX4_refuseNoPerson_13 : decode cX4_refuseNoPerson 13 = .ok (.dup, 1) := by decide +kernel
theorem dX4_refuseNoPerson_14 : decode cX4_refuseNoPerson 14 = .ok (.ldc 176, 2) := by decide +kernel
theorem dX4_refuseNoPerson_16 : decode cX4_refuseNoPerson 16 = .ok (.invokespecial 93, 3) := by decide +kernel
theorem dX4_refuseNoPerson_19 : decode cX4_refuseNoPerson 19 = .ok (.athrow, 1) := by decide +kernel
theorem dX4_refuseNoPerson_20 : decode cX4_refuseNoPerson 20 = .ok (.return_, 1) := by decide +kernel
theorem dX4_refuseNoGroup_0 : decode cX4_refuseNoGroup 0 = .ok (.iload_n 0, 1) := by decide +kernel
theorem dX4_refuseNoGroup_1 : decode cX4_refuseNoGroup 1 = .ok (.ifCond .lt 9, 3) := by decide +kernel
theorem dX4_refuseNoGroup_4 : decode cX4_refuseNoGroup 4 = .ok (.iload_n 0, 1) := by decide +kernel
theorem dX4_refuseNoGroup_5 : decode cX4_refuseNoGroup 5 = .ok (.bipush 6, 2) := by decide +kernel
theorem dX4_refuseNoGroup_7 : decode cX4_refuseNoGroup 7 = .ok (.if_icmp .lt 13, 3) := by decide +kernel
theorem dX4_refuseNoGroup_10 : decode cX4_refuseNoGroup 10 = .ok (.new 89, 3) := by decide +kernel
theorem dX4_refuseNoGroup_13 : decode cX4_refuseNoGroup 13 = .ok (.dup, 1) := by decide +kernel
theorem dX4_refuseNoGroup_14 : decode cX4_refuseNoGroup 14 = .ok (.ldc 178, 2) := by decide +kernel
theorem dX4_refuseNoGroup_16 : decode cX4_refuseNoGroup 16 = .ok (.invokespecial 93, 3) := by decide +kernel
theorem dX4_refuseNoGroup_19 : decode cX4_refuseNoGroup 19 = .ok (.athrow, 1) := by decide +kernel
theorem dX4_refuseNoGroup_20 : decode cX4_refuseNoGroup 20 = .ok (.return_, 1) := by decide +kernel
theorem dX4_folderAt_0 : decode cX4_folderAt 0 = .ok (.iload_n 1, 1) := by decide +kernel
theorem dX4_folderAt_1 : decode cX4_folderAt 1 = .ok (.ifCond .lt 14, 3) := by decide +kernel
theorem dX4_folderAt_4 : decode cX4_folderAt 4 = .ok (.iload_n 1, 1) := by decide +kernel
theorem dX4_folderAt_5 : decode cX4_folderAt 5 = .ok (.aload_n 0, 1) := by decide +kernel
theorem dX4_folderAt_6 : decode cX4_folderAt 6 = .ok (.getfield 19, 3) := by decide +kernel
theorem dX4_folderAt_9 : decode cX4_folderAt 9 = .ok (.invokevirtual 75, 3) := by decide +kernel
theorem dX4_folderAt_12 : decode cX4_folderAt 12 = .ok (.if_icmp .lt 13, 3) := by decide +kernel
theorem dX4_folderAt_15 : decode cX4_folderAt 15 = .ok (.new 89, 3) := by decide +kernel
theorem dX4_folderAt_18 : decode cX4_folderAt 18 = .ok (.dup, 1) := by decide +kernel
theorem dX4_folderAt_19 : decode cX4_folderAt 19 = .ok (.ldc 180, 2) := by decide +kernel
theorem dX4_folderAt_21 : decode cX4_folderAt 21 = .ok (.invokespecial 93, 3) := by decide +kernel
theorem dX4_folderAt_24 : decode cX4_folderAt 24 = .ok (.athrow, 1) := by decide +kernel
theorem dX4_folderAt_25 : decode cX4_folderAt 25 = .ok (.aload_n 0, 1) := by decide +kernel
theorem dX4_folderAt_26 : decode cX4_folderAt 26 = .ok (.getfield 19, 3) := by decide +kernel
theorem dX4_folderAt_29 : decode cX4_folderAt 29 = .ok (.iload_n 1, 1) := by decide +kernel
theorem dX4_folderAt_30 : decode cX4_folderAt 30 = .ok (.invokevirtual 155, 3) := by decide +kernel
theorem dX4_folderAt_33 : decode cX4_folderAt 33 = .ok (.checkcast 30, 3) := by decide +kernel
theorem dX4_folderAt_36 : decode cX4_folderAt 36 = .ok (.areturn, 1) := by decide +kernel
theorem dX4_contains_0 : decode cX4_contains 0 = .ok (.iload_n 0, 1) := by decide +kernel
theorem dX4_contains_1 : decode cX4_contains 1 = .ok (.iload_n 1, 1) := by decide +kernel
theorem dX4_contains_2 : decode cX4_contains 2 = .ok (.ishr, 1) := by decide +kernel
theorem dX4_contains_3 : decode cX4_contains 3 = .ok (.iconst 1, 1) := by decide +kernel
theorem dX4_contains_4 : decode cX4_contains 4 = .ok (.iand, 1) := by decide +kernel
theorem dX4_contains_5 : decode cX4_contains 5 = .ok (.ifCond .eq 7, 3) := by decide +kernel
theorem dX4_contains_8 : decode cX4_contains 8 = .ok (.iconst 1, 1) := by decide +kernel
theorem dX4_contains_9 : decode cX4_contains 9 = .ok (.goto 4, 3) := by decide +kernel
theorem dX4_contains_12 : decode cX4_contains 12 = .ok (.iconst 0, 1) := by decide +kernel
theorem dX4_contains_13 : decode cX4_contains 13 = .ok (.ireturn, 1) := by decide +kernel
theorem dX4_isFor_0 : decode cX4_isFor 0 = .ok (.aload_n 1, 1) := by decide +kernel
theorem dX4_isFor_1 : decode cX4_isFor 1 = .ok (.getfield 182, 3) := by decide +kernel
theorem dX4_isFor_4 : decode cX4_isFor 4 = .ok (.bipush 8, 2) := by decide +kernel
theorem dX4_isFor_6 : decode cX4_isFor 6 = .ok (.if_icmp .ge 17, 3) := by decide +kernel
theorem dX4_isFor_9 : decode cX4_isFor 9 = .ok (.aload_n 1, 1) := by decide +kernel
theorem dX4_isFor_10 : decode cX4_isFor 10 = .ok (.getfield 182, 3) := by decide +kernel
theorem dX4_isFor_13 : decode cX4_isFor 13 = .ok (.iload_n 2, 1) := by decide +kernel
theorem dX4_isFor_14 : decode cX4_isFor 14 = .ok (.if_icmp .ne 7, 3) := by decide +kernel
theorem dX4_isFor_17 : decode cX4_isFor 17 = .ok (.iconst 1, 1) := by decide +kernel
theorem dX4_isFor_18 : decode cX4_isFor 18 = .ok (.goto 4, 3) := by decide +kernel
theorem dX4_isFor_21 : decode cX4_isFor 21 = .ok (.iconst 0, 1) := by decide +kernel
theorem dX4_isFor_22 : decode cX4_isFor 22 = .ok (.ireturn, 1) := by decide +kernel
theorem dX4_isFor_23 : decode cX4_isFor 23 = .ok (.aload_n 0, 1) := by decide +kernel
theorem dX4_isFor_24 : decode cX4_isFor 24 = .ok (.getfield 12, 3) := by decide +kernel
theorem dX4_isFor_27 : decode cX4_isFor 27 = .ok (.aload_n 1, 1) := by decide +kernel
theorem dX4_isFor_28 : decode cX4_isFor 28 = .ok (.getfield 182, 3) := by decide +kernel
theorem dX4_isFor_31 : decode cX4_isFor 31 = .ok (.bipush 8, 2) := by decide +kernel
theorem dX4_isFor_33 : decode cX4_isFor 33 = .ok (.isub, 1) := by decide +kernel
theorem dX4_isFor_34 : decode cX4_isFor 34 = .ok (.invokevirtual 68, 3) := by decide +kernel
theorem dX4_isFor_37 : decode cX4_isFor 37 = .ok (.iload_n 2, 1) := by decide +kernel
theorem dX4_isFor_38 : decode cX4_isFor 38 = .ok (.invokestatic 54, 3) := by decide +kernel
theorem dX4_isFor_41 : decode cX4_isFor 41 = .ok (.ireturn, 1) := by decide +kernel
theorem dX4_rightsByEntries_0 : decode cX4_rightsByEntries 0 = .ok (.iload_n 1, 1) := by decide +kernel
theorem dX4_rightsByEntries_1 : decode cX4_rightsByEntries 1 = .ok (.aload_n 2, 1) := by decide +kernel
theorem dX4_rightsByEntries_2 : decode cX4_rightsByEntries 2 = .ok (.getfield 81, 3) := by decide +kernel
theorem dX4_rightsByEntries_5 : decode cX4_rightsByEntries 5 = .ok (.if_icmp .ne 6, 3) := by decide +kernel
theorem dX4_rightsByEntries_8 : decode cX4_rightsByEntries 8 = .ok (.bipush 7, 2) := by decide +kernel
theorem dX4_rightsByEntries_10 : decode cX4_rightsByEntries 10 = .ok (.ireturn, 1) := by decide +kernel
theorem dX4_rightsByEntries_11 : decode cX4_rightsByEntries 11 = .ok (.bipush 7, 2) := by decide +kernel
theorem dX4_rightsByEntries_13 : decode cX4_rightsByEntries 13 = .ok (.istore_n 3, 1) := by decide +kernel
theorem dX4_rightsByEntries_14 : decode cX4_rightsByEntries 14 = .ok (.iconst 0, 1) := by decide +kernel
theorem dX4_rightsByEntries_15 : decode cX4_rightsByEntries 15 = .ok (.istore 4, 2) := by decide +kernel
theorem dX4_rightsByEntries_17 : decode cX4_rightsByEntries 17 = .ok (.aload_n 2, 1) := by decide +kernel
theorem dX4_rightsByEntries_18 : decode cX4_rightsByEntries 18 = .ok (.astore 5, 2) := by decide +kernel
theorem dX4_rightsByEntries_20 : decode cX4_rightsByEntries 20 = .ok (.aload 5, 2) := by decide +kernel
theorem dX4_rightsByEntries_22 : decode cX4_rightsByEntries 22 = .ok (.ifnull 109, 3) := by decide +kernel
theorem dX4_rightsByEntries_25 : decode cX4_rightsByEntries 25 = .ok (.iconst 0, 1) := by decide +kernel
theorem dX4_rightsByEntries_26 : decode cX4_rightsByEntries 26 = .ok (.istore 6, 2) := by decide +kernel
theorem dX4_rightsByEntries_28 : decode cX4_rightsByEntries 28 = .ok (.iload 6, 2) := by decide +kernel
theorem dX4_rightsByEntries_30 : decode cX4_rightsByEntries 30 = .ok (.aload 5, 2) := by decide +kernel
theorem dX4_rightsByEntries_32 : decode cX4_rightsByEntries 32 = .ok (.getfield 99, 3) := by decide +kernel
theorem dX4_rightsByEntries_35 : decode cX4_rightsByEntries 35 = .ok (.invokevirtual 75, 3) := by decide +kernel
theorem dX4_rightsByEntries_38 : decode cX4_rightsByEntries 38 = .ok (.if_icmp .ge 83, 3) := by decide +kernel
theorem dX4_rightsByEntries_41 : decode cX4_rightsByEntries 41 = .ok (.aload 5, 2) := by decide +kernel
theorem dX4_rightsByEntries_43 : decode cX4_rightsByEntries 43 = .ok (.getfield 99, 3) := by decide +kernel
theorem dX4_rightsByEntries_46 : decode cX4_rightsByEntries 46 = .ok (.iload 6, 2) := by decide +kernel
theorem dX4_rightsByEntries_48 : decode cX4_rightsByEntries 48 = .ok (.invokevirtual 155, 3) := by decide +kernel
theorem dX4_rightsByEntries_51 : decode cX4_rightsByEntries 51 = .ok (.checkcast 104, 3) := by decide +kernel
theorem dX4_rightsByEntries_54 : decode cX4_rightsByEntries 54 = .ok (.astore 7, 2) := by decide +kernel
theorem dX4_rightsByEntries_56 : decode cX4_rightsByEntries 56 = .ok (.aload 7, 2) := by decide +kernel
theorem dX4_rightsByEntries_58 : decode cX4_rightsByEntries 58 = .ok (.aload 5, 2) := by decide +kernel
theorem dX4_rightsByEntries_60 : decode cX4_rightsByEntries 60 = .ok (.aload_n 2, 1) := by decide +kernel
theorem dX4_rightsByEntries_61 : decode cX4_rightsByEntries 61 = .ok (.if_acmp .ne 7, 3) := by decide +kernel
theorem dX4_rightsByEntries_64 : decode cX4_rightsByEntries 64 = .ok (.iconst 1, 1) := by decide +kernel
theorem dX4_rightsByEntries_65 : decode cX4_rightsByEntries 65 = .ok (.goto 4, 3) := by decide +kernel
theorem dX4_rightsByEntries_68 : decode cX4_rightsByEntries 68 = .ok (.iconst 0, 1) := by decide +kernel
theorem dX4_rightsByEntries_69 : decode cX4_rightsByEntries 69 = .ok (.invokevirtual 185, 3) := by decide +kernel
theorem dX4_rightsByEntries_72 : decode cX4_rightsByEntries 72 = .ok (.ifCond .eq 43, 3) := by decide +kernel
theorem dX4_rightsByEntries_75 : decode cX4_rightsByEntries 75 = .ok (.aload_n 0, 1) := by decide +kernel
theorem dX4_rightsByEntries_76 : decode cX4_rightsByEntries 76 = .ok (.aload 7, 2) := by decide +kernel
theorem dX4_rightsByEntries_78 : decode cX4_rightsByEntries 78 = .ok (.iload_n 1, 1) := by decide +kernel
theorem dX4_rightsByEntries_79 : decode cX4_rightsByEntries 79 = .ok (.invokevirtual 189, 3) := by decide +kernel
theorem dX4_rightsByEntries_82 : decode cX4_rightsByEntries 82 = .ok (.ifCond .eq 33, 3) := by decide +kernel
theorem dX4_rightsByEntries_85 : decode cX4_rightsByEntries 85 = .ok (.aload 7, 2) := by decide +kernel
theorem dX4_rightsByEntries_87 : decode cX4_rightsByEntries 87 = .ok (.getfield 193, 3) := by decide +kernel
theorem dX4_rightsByEntries_90 : decode cX4_rightsByEntries 90 = .ok (.ifCond .eq 15, 3) := by decide +kernel
theorem dX4_rightsByEntries_93 : decode cX4_rightsByEntries 93 = .ok (.iload 4, 2) := by decide +kernel
theorem dX4_rightsByEntries_95 : decode cX4_rightsByEntries 95 = .ok (.aload 7, 2) := by decide +kernel
theorem dX4_rightsByEntries_97 : decode cX4_rightsByEntries 97 = .ok (.getfield 115, 3) := by decide +kernel
theorem dX4_rightsByEntries_100 : decode cX4_rightsByEntries 100 = .ok (.iload_n 3, 1) := by decide +kernel
theorem dX4_rightsByEntries_101 : decode cX4_rightsByEntries 101 = .ok (.iand, 1) := by decide +kernel
theorem dX4_rightsByEntries_102 : decode cX4_rightsByEntries 102 = .ok (.ior, 1) := by decide +kernel
theorem dX4_rightsByEntries_103 : decode cX4_rightsByEntries 103 = .ok (.istore 4, 2) := by decide +kernel
theorem dX4_rightsByEntries_105 : decode cX4_rightsByEntries 105 = .ok (.iload_n 3, 1) := by decide +kernel
theorem dX4_rightsByEntries_106 : decode cX4_rightsByEntries 106 = .ok (.aload 7, 2) := by decide +kernel
theorem dX4_rightsByEntries_108 : decode cX4_rightsByEntries 108 = .ok (.getfield 115, 3) := by decide +kernel
theorem dX4_rightsByEntries_111 : decode cX4_rightsByEntries 111 = .ok (.iconst (-1), 1) := by decide +kernel
theorem dX4_rightsByEntries_112 : decode cX4_rightsByEntries 112 = .ok (.ixor, 1) := by decide +kernel
theorem dX4_rightsByEntries_113 : decode cX4_rightsByEntries 113 = .ok (.iand, 1) := by decide +kernel
theorem dX4_rightsByEntries_114 : decode cX4_rightsByEntries 114 = .ok (.istore_n 3, 1) := by decide +kernel
theorem dX4_rightsByEntries_115 : decode cX4_rightsByEntries 115 = .ok (.iinc 6 1, 3) := by decide +kernel
theorem dX4_rightsByEntries_118 : decode cX4_rightsByEntries 118 = .ok (.goto (-90), 3) := by decide +kernel
theorem dX4_rightsByEntries_121 : decode cX4_rightsByEntries 121 = .ok (.aload 5, 2) := by decide +kernel
theorem dX4_rightsByEntries_123 : decode cX4_rightsByEntries 123 = .ok (.invokevirtual 196, 3) := by decide +kernel
theorem dX4_rightsByEntries_126 : decode cX4_rightsByEntries 126 = .ok (.astore 5, 2) := by decide +kernel
theorem dX4_rightsByEntries_128 : decode cX4_rightsByEntries 128 = .ok (.goto (-108), 3) := by decide +kernel
theorem dX4_rightsByEntries_131 : decode cX4_rightsByEntries 131 = .ok (.iload 4, 2) := by decide +kernel
theorem dX4_rightsByEntries_133 : decode cX4_rightsByEntries 133 = .ok (.ireturn, 1) := by decide +kernel
theorem dX4_rightsByOverruling_0 : decode cX4_rightsByOverruling 0 = .ok (.iload_n 1, 1) := by decide +kernel
theorem dX4_rightsByOverruling_1 : decode cX4_rightsByOverruling 1 = .ok (.aload_n 2, 1) := by decide +kernel
theorem dX4_rightsByOverruling_2 : decode cX4_rightsByOverruling 2 = .ok (.getfield 81, 3) := by decide +kernel
theorem dX4_rightsByOverruling_5 : decode cX4_rightsByOverruling 5 = .ok (.if_icmp .ne 6, 3) := by decide +kernel
theorem dX4_rightsByOverruling_8 : decode cX4_rightsByOverruling 8 = .ok (.bipush 7, 2) := by decide +kernel
theorem dX4_rightsByOverruling_10 : decode cX4_rightsByOverruling 10 = .ok (.ireturn, 1) := by decide +kernel
theorem dX4_rightsByOverruling_11 : decode cX4_rightsByOverruling 11 = .ok (.iconst 0, 1) := by decide +kernel
theorem dX4_rightsByOverruling_12 : decode cX4_rightsByOverruling 12 = .ok (.istore_n 3, 1) := by decide +kernel
theorem dX4_rightsByOverruling_13 : decode cX4_rightsByOverruling 13 = .ok (.aload_n 2, 1) := by decide +kernel
theorem dX4_rightsByOverruling_14 : decode cX4_rightsByOverruling 14 = .ok (.invokevirtual 200, 3) := by decide +kernel
theorem dX4_rightsByOverruling_17 : decode cX4_rightsByOverruling 17 = .ok (.istore 4, 2) := by decide +kernel
theorem dX4_rightsByOverruling_19 : decode cX4_rightsByOverruling 19 = .ok (.iload 4, 2) := by decide +kernel
theorem dX4_rightsByOverruling_21 : decode cX4_rightsByOverruling 21 = .ok (.ifCond .lt 111, 3) := by decide +kernel
theorem dX4_rightsByOverruling_24 : decode cX4_rightsByOverruling 24 = .ok (.aload_n 2, 1) := by decide +kernel
theorem dX4_rightsByOverruling_25 : decode cX4_rightsByOverruling 25 = .ok (.iload 4, 2) := by decide +kernel
theorem dX4_rightsByOverruling_27 : decode cX4_rightsByOverruling 27 = .ok (.invokevirtual 203, 3) := by decide +kernel
theorem dX4_rightsByOverruling_30 : decode cX4_rightsByOverruling 30 = .ok (.astore 5, 2) := by decide +kernel
theorem dX4_rightsByOverruling_32 : decode cX4_rightsByOverruling 32 = .ok (.aload 5, 2) := by decide +kernel
theorem dX4_rightsByOverruling_34 : decode cX4_rightsByOverruling 34 = .ok (.getfield 99, 3) := by decide +kernel
theorem dX4_rightsByOverruling_37 : decode cX4_rightsByOverruling 37 = .ok (.invokevirtual 75, 3) := by decide +kernel
theorem dX4_rightsByOverruling_40 : decode cX4_rightsByOverruling 40 = .ok (.iconst 1, 1) := by decide +kernel
theorem dX4_rightsByOverruling_41 : decode cX4_rightsByOverruling 41 = .ok (.isub, 1) := by decide +kernel
theorem dX4_rightsByOverruling_42 : decode cX4_rightsByOverruling 42 = .ok (.istore 6, 2) := by decide +kernel
theorem dX4_rightsByOverruling_44 : decode cX4_rightsByOverruling 44 = .ok (.iload 6, 2) := by decide +kernel
theorem dX4_rightsByOverruling_46 : decode cX4_rightsByOverruling 46 = .ok (.ifCond .lt 80, 3) := by decide +kernel
theorem dX4_rightsByOverruling_49 : decode cX4_rightsByOverruling 49 = .ok (.aload 5, 2) := by decide +kernel
theorem dX4_rightsByOverruling_51 : decode cX4_rightsByOverruling 51 = .ok (.getfield 99, 3) := by decide +kernel
theorem dX4_rightsByOverruling_54 : decode cX4_rightsByOverruling 54 = .ok (.iload 6, 2) := by decide +kernel
theorem dX4_rightsByOverruling_56 : decode cX4_rightsByOverruling 56 = .ok (.invokevirtual 155, 3) := by decide +kernel
theorem dX4_rightsByOverruling_59 : decode cX4_rightsByOverruling 59 = .ok (.checkcast 104, 3) := by decide +kernel
theorem dX4_rightsByOverruling_62 : decode cX4_rightsByOverruling 62 = .ok (.astore 7, 2) := by decide +kernel
theorem dX4_rightsByOverruling_64 : decode cX4_rightsByOverruling 64 = .ok (.aload 7, 2) := by decide +kernel
theorem dX4_rightsByOverruling_66 : decode cX4_rightsByOverruling 66 = .ok (.iload 4, 2) := by decide +kernel
theorem dX4_rightsByOverruling_68 : decode cX4_rightsByOverruling 68 = .ok (.ifCond .ne 7, 3) := by decide +kernel
theorem dX4_rightsByOverruling_71 : decode cX4_rightsByOverruling 71 = .ok (.iconst 1, 1) := by decide +kernel
theorem dX4_rightsByOverruling_72 : decode cX4_rightsByOverruling 72 = .ok (.goto 4, 3) := by decide +kernel
theorem dX4_rightsByOverruling_75 : decode cX4_rightsByOverruling 75 = .ok (.iconst 0, 1) := by decide +kernel
theorem dX4_rightsByOverruling_76 : decode cX4_rightsByOverruling 76 = .ok (.invokevirtual 185, 3) := by decide +kernel
theorem dX4_rightsByOverruling_79 : decode cX4_rightsByOverruling 79 = .ok (.ifCond .eq 41, 3) := by decide +kernel
theorem dX4_rightsByOverruling_82 : decode cX4_rightsByOverruling 82 = .ok (.aload_n 0, 1) := by decide +kernel
theorem dX4_rightsByOverruling_83 : decode cX4_rightsByOverruling 83 = .ok (.aload 7, 2) := by decide +kernel
theorem dX4_rightsByOverruling_85 : decode cX4_rightsByOverruling 85 = .ok (.iload_n 1, 1) := by decide +kernel
theorem dX4_rightsByOverruling_86 : decode cX4_rightsByOverruling 86 = .ok (.invokevirtual 189, 3) := by decide +kernel
theorem dX4_rightsByOverruling_89 : decode cX4_rightsByOverruling 89 = .ok (.ifCond .eq 31, 3) := by decide +kernel
theorem dX4_rightsByOverruling_92 : decode cX4_rightsByOverruling 92 = .ok (.aload 7, 2) := by decide +kernel
theorem dX4_rightsByOverruling_94 : decode cX4_rightsByOverruling 94 = .ok (.getfield 193, 3) := by decide +kernel
theorem dX4_rightsByOverruling_97 : decode cX4_rightsByOverruling 97 = .ok (.ifCond .eq 13, 3) := by decide +kernel
theorem dX4_rightsByOverruling_100 : decode cX4_rightsByOverruling 100 = .ok (.iload_n 3, 1) := by decide +kernel
theorem dX4_rightsByOverruling_101 : decode cX4_rightsByOverruling 101 = .ok (.aload 7, 2) := by decide +kernel
theorem dX4_rightsByOverruling_103 : decode cX4_rightsByOverruling 103 = .ok (.getfield 115, 3) := by decide +kernel
theorem dX4_rightsByOverruling_106 : decode cX4_rightsByOverruling 106 = .ok (.ior, 1) := by decide +kernel
theorem dX4_rightsByOverruling_107 : decode cX4_rightsByOverruling 107 = .ok (.goto 12, 3) := by decide +kernel
theorem dX4_rightsByOverruling_110 : decode cX4_rightsByOverruling 110 = .ok (.iload_n 3, 1) := by decide +kernel
theorem dX4_rightsByOverruling_111 : decode cX4_rightsByOverruling 111 = .ok (.aload 7, 2) := by decide +kernel
theorem dX4_rightsByOverruling_113 : decode cX4_rightsByOverruling 113 = .ok (.getfield 115, 3) := by decide +kernel
theorem dX4_rightsByOverruling_116 : decode cX4_rightsByOverruling 116 = .ok (.iconst (-1), 1) := by decide +kernel
theorem dX4_rightsByOverruling_117 : decode cX4_rightsByOverruling 117 = .ok (.ixor, 1) := by decide +kernel
theorem dX4_rightsByOverruling_118 : decode cX4_rightsByOverruling 118 = .ok (.iand, 1) := by decide +kernel
theorem dX4_rightsByOverruling_119 : decode cX4_rightsByOverruling 119 = .ok (.istore_n 3, 1) := by decide +kernel
theorem dX4_rightsByOverruling_120 : decode cX4_rightsByOverruling 120 = .ok (.iinc 6 (-1), 3) := by decide +kernel
theorem dX4_rightsByOverruling_123 : decode cX4_rightsByOverruling 123 = .ok (.goto (-79), 3) := by decide +kernel
theorem dX4_rightsByOverruling_126 : decode cX4_rightsByOverruling 126 = .ok (.iinc 4 (-1), 3) := by decide +kernel
theorem dX4_rightsByOverruling_129 : decode cX4_rightsByOverruling 129 = .ok (.goto (-110), 3) := by decide +kernel
theorem dX4_rightsByOverruling_132 : decode cX4_rightsByOverruling 132 = .ok (.iload_n 3, 1) := by decide +kernel
theorem dX4_rightsByOverruling_133 : decode cX4_rightsByOverruling 133 = .ok (.ireturn, 1) := by decide +kernel
theorem dX4_currentRights_0 : decode cX4_currentRights 0 = .ok (.aload_n 2, 1) := by decide +kernel
theorem dX4_currentRights_1 : decode cX4_currentRights 1 = .ok (.getfield 170, 3) := by decide +kernel
theorem dX4_currentRights_4 : decode cX4_currentRights 4 = .ok (.ifCond .eq 12, 3) := by decide +kernel
theorem dX4_currentRights_7 : decode cX4_currentRights 7 = .ok (.aload_n 2, 1) := by decide +kernel
theorem dX4_currentRights_8 : decode cX4_currentRights 8 = .ok (.getfield 206, 3) := by decide +kernel
theorem dX4_currentRights_11 : decode cX4_currentRights 11 = .ok (.iload_n 1, 1) := by decide +kernel
theorem dX4_currentRights_12 : decode cX4_currentRights 12 = .ok (.iaload, 1) := by decide +kernel
theorem dX4_currentRights_13 : decode cX4_currentRights 13 = .ok (.goto 9, 3) := by decide +kernel
theorem dX4_currentRights_16 : decode cX4_currentRights 16 = .ok (.aload_n 0, 1) := by decide +kernel
theorem dX4_currentRights_17 : decode cX4_currentRights 17 = .ok (.iload_n 1, 1) := by decide +kernel
theorem dX4_currentRights_18 : decode cX4_currentRights 18 = .ok (.aload_n 2, 1) := by decide +kernel
theorem dX4_currentRights_19 : decode cX4_currentRights 19 = .ok (.invokevirtual 118, 3) := by decide +kernel
theorem dX4_currentRights_22 : decode cX4_currentRights 22 = .ok (.ireturn, 1) := by decide +kernel
theorem dX4_findHeld_0 : decode cX4_findHeld 0 = .ok (.iconst 0, 1) := by decide +kernel
theorem dX4_findHeld_1 : decode cX4_findHeld 1 = .ok (.istore_n 2, 1) := by decide +kernel
theorem dX4_findHeld_2 : decode cX4_findHeld 2 = .ok (.iload_n 2, 1) := by decide +kernel
theorem dX4_findHeld_3 : decode cX4_findHeld 3 = .ok (.bipush 8, 2) := by decide +kernel
theorem dX4_findHeld_5 : decode cX4_findHeld 5 = .ok (.if_icmp .ge 24, 3) := by decide +kernel
theorem dX4_findHeld_8 : decode cX4_findHeld 8 = .ok (.aload_n 0, 1) := by decide +kernel
theorem dX4_findHeld_9 : decode cX4_findHeld 9 = .ok (.getfield 26, 3) := by decide +kernel
theorem dX4_findHeld_12 : decode cX4_findHeld 12 = .ok (.getfield 209, 3) := by decide +kernel
theorem dX4_findHeld_15 : decode cX4_findHeld 15 = .ok (.iload_n 2, 1) := by decide +kernel
theorem dX4_findHeld_16 : decode cX4_findHeld 16 = .ok (.aload_n 0, 1) := by decide +kernel
theorem dX4_findHeld_17 : decode cX4_findHeld 17 = .ok (.iload_n 2, 1) := by decide +kernel
theorem dX4_findHeld_18 : decode cX4_findHeld 18 = .ok (.aload_n 1, 1) := by decide +kernel
theorem dX4_findHeld_19 : decode cX4_findHeld 19 = .ok (.invokevirtual 118, 3) := by decide +kernel
theorem dX4_findHeld_22 : decode cX4_findHeld 22 = .ok (.iastore, 1) := by decide +kernel
theorem dX4_findHeld_23 : decode cX4_findHeld 23 = .ok (.iinc 2 1, 3) := by decide +kernel
theorem dX4_findHeld_26 : decode cX4_findHeld 26 = .ok (.goto (-24), 3) := by decide +kernel
theorem dX4_findHeld_29 : decode cX4_findHeld 29 = .ok (.return_, 1) := by decide +kernel
theorem dX4_mapWith_0 : decode cX4_mapWith 0 = .ok (.iload_n 2, 1) := by decide +kernel
theorem dX4_mapWith_1 : decode cX4_mapWith 1 = .ok (.iconst (-1), 1) := by decide +kernel
theorem dX4_mapWith_2 : decode cX4_mapWith 2 = .ok (.if_icmp .ne 7, 3) := by decide +kernel
theorem dX4_mapWith_5 : decode cX4_mapWith 5 = .ok (.iconst 0, 1) := by decide +kernel
theorem dX4_mapWith_6 : decode cX4_mapWith 6 = .ok (.goto 11, 3) := by decide +kernel
theorem dX4_mapWith_9 : decode cX4_mapWith 9 = .ok (.aload_n 0, 1) := by decide +kernel
theorem dX4_mapWith_10 : decode cX4_mapWith 10 = .ok (.getfield 12, 3) := by decide +kernel
theorem dX4_mapWith_13 : decode cX4_mapWith 13 = .ok (.iload_n 2, 1) := by decide +kernel
theorem dX4_mapWith_14 : decode cX4_mapWith 14 = .ok (.invokevirtual 68, 3) := by decide +kernel
theorem dX4_mapWith_17 : decode cX4_mapWith 17 = .ok (.istore_n 3, 1) := by decide +kernel
theorem dX4_mapWith_18 : decode cX4_mapWith 18 = .ok (.aload_n 0, 1) := by decide +kernel
theorem dX4_mapWith_19 : decode cX4_mapWith 19 = .ok (.getfield 26, 3) := by decide +kernel
theorem dX4_mapWith_22 : decode cX4_mapWith 22 = .ok (.aload_n 1, 1) := by decide +kernel
theorem dX4_mapWith_23 : decode cX4_mapWith 23 = .ok (.getfield 81, 3) := by decide +kernel
theorem dX4_mapWith_26 : decode cX4_mapWith 26 = .ok (.iload_n 2, 1) := by decide +kernel
theorem dX4_mapWith_27 : decode cX4_mapWith 27 = .ok (.iload_n 3, 1) := by decide +kernel
theorem dX4_mapWith_28 : decode cX4_mapWith 28 = .ok (.invokevirtual 212, 3) := by decide +kernel
theorem dX4_mapWith_31 : decode cX4_mapWith 31 = .ok (.return_, 1) := by decide +kernel
theorem dX4_mappingOf_0 : decode cX4_mappingOf 0 = .ok (.aload_n 0, 1) := by decide +kernel
theorem dX4_mappingOf_1 : decode cX4_mappingOf 1 = .ok (.aload_n 1, 1) := by decide +kernel
theorem dX4_mappingOf_2 : decode cX4_mappingOf 2 = .ok (.invokevirtual 148, 3) := by decide +kernel
theorem dX4_mappingOf_5 : decode cX4_mappingOf 5 = .ok (.aload_n 0, 1) := by decide +kernel
theorem dX4_mappingOf_6 : decode cX4_mappingOf 6 = .ok (.aload_n 1, 1) := by decide +kernel
theorem dX4_mappingOf_7 : decode cX4_mappingOf 7 = .ok (.iconst (-1), 1) := by decide +kernel
theorem dX4_mappingOf_8 : decode cX4_mappingOf 8 = .ok (.invokevirtual 152, 3) := by decide +kernel
theorem dX4_mappingOf_11 : decode cX4_mappingOf 11 = .ok (.aload_n 0, 1) := by decide +kernel
theorem dX4_mappingOf_12 : decode cX4_mappingOf 12 = .ok (.getfield 26, 3) := by decide +kernel
theorem dX4_mappingOf_15 : decode cX4_mappingOf 15 = .ok (.getfield 145, 3) := by decide +kernel
theorem dX4_mappingOf_18 : decode cX4_mappingOf 18 = .ok (.istore_n 2, 1) := by decide +kernel
theorem dX4_mappingOf_19 : decode cX4_mappingOf 19 = .ok (.iconst (-1), 1) := by decide +kernel
theorem dX4_mappingOf_20 : decode cX4_mappingOf 20 = .ok (.istore_n 3, 1) := by decide +kernel
theorem dX4_mappingOf_21 : decode cX4_mappingOf 21 = .ok (.iconst 0, 1) := by decide +kernel
theorem dX4_mappingOf_22 : decode cX4_mappingOf 22 = .ok (.istore 4, 2) := by decide +kernel
theorem dX4_mappingOf_24 : decode cX4_mappingOf 24 = .ok (.iload 4, 2) := by decide +kernel
theorem dX4_mappingOf_26 : decode cX4_mappingOf 26 = .ok (.bipush 6, 2) := by decide +kernel
theorem dX4_mappingOf_28 : decode cX4_mappingOf 28 = .ok (.if_icmp .ge 38, 3) := by decide +kernel
theorem dX4_mappingOf_31 : decode cX4_mappingOf 31 = .ok (.aload_n 0, 1) := by decide +kernel
theorem dX4_mappingOf_32 : decode cX4_mappingOf 32 = .ok (.aload_n 1, 1) := by decide +kernel
theorem dX4_mappingOf_33 : decode cX4_mappingOf 33 = .ok (.iload 4, 2) := by decide +kernel
theorem dX4_mappingOf_35 : decode cX4_mappingOf 35 = .ok (.invokevirtual 152, 3) := by decide +kernel
theorem dX4_mappingOf_38 : decode cX4_mappingOf 38 = .ok (.aload_n 0, 1) := by decide +kernel
theorem dX4_mappingOf_39 : decode cX4_mappingOf 39 = .ok (.getfield 26, 3) := by decide +kernel
theorem dX4_mappingOf_42 : decode cX4_mappingOf 42 = .ok (.getfield 145, 3) := by decide +kernel
theorem dX4_mappingOf_45 : decode cX4_mappingOf 45 = .ok (.iload_n 2, 1) := by decide +kernel
theorem dX4_mappingOf_46 : decode cX4_mappingOf 46 = .ok (.if_icmp .ge 14, 3) := by decide +kernel
theorem dX4_mappingOf_49 : decode cX4_mappingOf 49 = .ok (.aload_n 0, 1) := by decide +kernel
theorem dX4_mappingOf_50 : decode cX4_mappingOf 50 = .ok (.getfield 26, 3) := by decide +kernel
theorem dX4_mappingOf_53 : decode cX4_mappingOf 53 = .ok (.getfield 145, 3) := by decide +kernel
theorem dX4_mappingOf_56 : decode cX4_mappingOf 56 = .ok (.istore_n 2, 1) := by decide +kernel
theorem dX4_mappingOf_57 : decode cX4_mappingOf 57 = .ok (.iload 4, 2) := by decide +kernel
theorem dX4_mappingOf_59 : decode cX4_mappingOf 59 = .ok (.istore_n 3, 1) := by decide +kernel
theorem dX4_mappingOf_60 : decode cX4_mappingOf 60 = .ok (.iinc 4 1, 3) := by decide +kernel
theorem dX4_mappingOf_63 : decode cX4_mappingOf 63 = .ok (.goto (-39), 3) := by decide +kernel
theorem dX4_mappingOf_66 : decode cX4_mappingOf 66 = .ok (.aload_n 0, 1) := by decide +kernel
theorem dX4_mappingOf_67 : decode cX4_mappingOf 67 = .ok (.aload_n 1, 1) := by decide +kernel
theorem dX4_mappingOf_68 : decode cX4_mappingOf 68 = .ok (.iload_n 3, 1) := by decide +kernel
theorem dX4_mappingOf_69 : decode cX4_mappingOf 69 = .ok (.invokevirtual 152, 3) := by decide +kernel
theorem dX4_mappingOf_72 : decode cX4_mappingOf 72 = .ok (.aload_n 0, 1) := by decide +kernel
theorem dX4_mappingOf_73 : decode cX4_mappingOf 73 = .ok (.getfield 26, 3) := by decide +kernel
theorem dX4_mappingOf_76 : decode cX4_mappingOf 76 = .ok (.areturn, 1) := by decide +kernel
theorem dJ6_bitCount_0f7a4_0 : decode cJ6_bitCount_0f7a4 0 = .ok (.iload_n 0, 1) := by decide +kernel
theorem dJ6_bitCount_0f7a4_1 : decode cJ6_bitCount_0f7a4 1 = .ok (.iload_n 0, 1) := by decide +kernel
theorem dJ6_bitCount_0f7a4_2 : decode cJ6_bitCount_0f7a4 2 = .ok (.iconst 1, 1) := by decide +kernel
theorem dJ6_bitCount_0f7a4_3 : decode cJ6_bitCount_0f7a4 3 = .ok (.iushr, 1) := by decide +kernel
theorem dJ6_bitCount_0f7a4_4 : decode cJ6_bitCount_0f7a4 4 = .ok (.ldc_w 265, 3) := by decide +kernel
theorem dJ6_bitCount_0f7a4_7 : decode cJ6_bitCount_0f7a4 7 = .ok (.iand, 1) := by decide +kernel
theorem dJ6_bitCount_0f7a4_8 : decode cJ6_bitCount_0f7a4 8 = .ok (.isub, 1) := by decide +kernel
theorem dJ6_bitCount_0f7a4_9 : decode cJ6_bitCount_0f7a4 9 = .ok (.istore_n 0, 1) := by decide +kernel
theorem dJ6_bitCount_0f7a4_10 : decode cJ6_bitCount_0f7a4 10 = .ok (.iload_n 0, 1) := by decide +kernel
theorem dJ6_bitCount_0f7a4_11 : decode cJ6_bitCount_0f7a4 11 = .ok (.ldc_w 266, 3) := by decide +kernel
theorem dJ6_bitCount_0f7a4_14 : decode cJ6_bitCount_0f7a4 14 = .ok (.iand, 1) := by decide +kernel
theorem dJ6_bitCount_0f7a4_15 : decode cJ6_bitCount_0f7a4 15 = .ok (.iload_n 0, 1) := by decide +kernel
theorem dJ6_bitCount_0f7a4_16 : decode cJ6_bitCount_0f7a4 16 = .ok (.iconst 2, 1) := by decide +kernel
theorem dJ6_bitCount_0f7a4_17 : decode cJ6_bitCount_0f7a4 17 = .ok (.iushr, 1) := by decide +kernel
theorem dJ6_bitCount_0f7a4_18 : decode cJ6_bitCount_0f7a4 18 = .ok (.ldc_w 266, 3) := by decide +kernel
theorem dJ6_bitCount_0f7a4_21 : decode cJ6_bitCount_0f7a4 21 = .ok (.iand, 1) := by decide +kernel
theorem dJ6_bitCount_0f7a4_22 : decode cJ6_bitCount_0f7a4 22 = .ok (.iadd, 1) := by decide +kernel
theorem dJ6_bitCount_0f7a4_23 : decode cJ6_bitCount_0f7a4 23 = .ok (.istore_n 0, 1) := by decide +kernel
theorem dJ6_bitCount_0f7a4_24 : decode cJ6_bitCount_0f7a4 24 = .ok (.iload_n 0, 1) := by decide +kernel
theorem dJ6_bitCount_0f7a4_25 : decode cJ6_bitCount_0f7a4 25 = .ok (.iload_n 0, 1) := by decide +kernel
theorem dJ6_bitCount_0f7a4_26 : decode cJ6_bitCount_0f7a4 26 = .ok (.iconst 4, 1) := by decide +kernel
theorem dJ6_bitCount_0f7a4_27 : decode cJ6_bitCount_0f7a4 27 = .ok (.iushr, 1) := by decide +kernel
theorem dJ6_bitCount_0f7a4_28 : decode cJ6_bitCount_0f7a4 28 = .ok (.iadd, 1) := by decide +kernel
theorem dJ6_bitCount_0f7a4_29 : decode cJ6_bitCount_0f7a4 29 = .ok (.ldc_w 267, 3) := by decide +kernel
theorem dJ6_bitCount_0f7a4_32 : decode cJ6_bitCount_0f7a4 32 = .ok (.iand, 1) := by decide +kernel
theorem dJ6_bitCount_0f7a4_33 : decode cJ6_bitCount_0f7a4 33 = .ok (.istore_n 0, 1) := by decide +kernel
theorem dJ6_bitCount_0f7a4_34 : decode cJ6_bitCount_0f7a4 34 = .ok (.iload_n 0, 1) := by decide +kernel
theorem dJ6_bitCount_0f7a4_35 : decode cJ6_bitCount_0f7a4 35 = .ok (.iload_n 0, 1) := by decide +kernel
theorem dJ6_bitCount_0f7a4_36 : decode cJ6_bitCount_0f7a4 36 = .ok (.bipush 8, 2) := by decide +kernel
theorem dJ6_bitCount_0f7a4_38 : decode cJ6_bitCount_0f7a4 38 = .ok (.iushr, 1) := by decide +kernel
theorem dJ6_bitCount_0f7a4_39 : decode cJ6_bitCount_0f7a4 39 = .ok (.iadd, 1) := by decide +kernel
theorem dJ6_bitCount_0f7a4_40 : decode cJ6_bitCount_0f7a4 40 = .ok (.istore_n 0, 1) := by decide +kernel
theorem dJ6_bitCount_0f7a4_41 : decode cJ6_bitCount_0f7a4 41 = .ok (.iload_n 0, 1) := by decide +kernel
theorem dJ6_bitCount_0f7a4_42 : decode cJ6_bitCount_0f7a4 42 = .ok (.iload_n 0, 1) := by decide +kernel
theorem dJ6_bitCount_0f7a4_43 : decode cJ6_bitCount_0f7a4 43 = .ok (.bipush 16, 2) := by decide +kernel
theorem dJ6_bitCount_0f7a4_45 : decode cJ6_bitCount_0f7a4 45 = .ok (.iushr, 1) := by decide +kernel
theorem dJ6_bitCount_0f7a4_46 : decode cJ6_bitCount_0f7a4 46 = .ok (.iadd, 1) := by decide +kernel
theorem dJ6_bitCount_0f7a4_47 : decode cJ6_bitCount_0f7a4 47 = .ok (.istore_n 0, 1) := by decide +kernel
theorem dJ6_bitCount_0f7a4_48 : decode cJ6_bitCount_0f7a4 48 = .ok (.iload_n 0, 1) := by decide +kernel
theorem dJ6_bitCount_0f7a4_49 : decode cJ6_bitCount_0f7a4 49 = .ok (.bipush 63, 2) := by decide +kernel
theorem dJ6_bitCount_0f7a4_51 : decode cJ6_bitCount_0f7a4 51 = .ok (.iand, 1) := by decide +kernel
theorem dJ6_bitCount_0f7a4_52 : decode cJ6_bitCount_0f7a4 52 = .ok (.ireturn, 1) := by decide +kernel
theorem dJ9_max_7cf53_0 : decode cJ9_max_7cf53 0 = .ok (.iload_n 0, 1) := by decide +kernel
theorem dJ9_max_7cf53_1 : decode cJ9_max_7cf53 1 = .ok (.iload_n 1, 1) := by decide +kernel
theorem dJ9_max_7cf53_2 : decode cJ9_max_7cf53 2 = .ok (.if_icmp .lt 7, 3) := by decide +kernel
theorem dJ9_max_7cf53_5 : decode cJ9_max_7cf53 5 = .ok (.iload_n 0, 1) := by decide +kernel
theorem dJ9_max_7cf53_6 : decode cJ9_max_7cf53 6 = .ok (.goto 4, 3) := by decide +kernel
theorem dJ9_max_7cf53_9 : decode cJ9_max_7cf53 9 = .ok (.iload_n 1, 1) := by decide +kernel
theorem dJ9_max_7cf53_10 : decode cJ9_max_7cf53 10 = .ok (.ireturn, 1) := by decide +kernel
theorem dJ9_min_7cf53_0 : decode cJ9_min_7cf53 0 = .ok (.iload_n 0, 1) := by decide +kernel
theorem dJ9_min_7cf53_1 : decode cJ9_min_7cf53 1 = .ok (.iload_n 1, 1) := by decide +kernel
theorem dJ9_min_7cf53_2 : decode cJ9_min_7cf53 2 = .ok (.if_icmp .gt 7, 3) := by decide +kernel
theorem dJ9_min_7cf53_5 : decode cJ9_min_7cf53 5 = .ok (.iload_n 0, 1) := by decide +kernel
theorem dJ9_min_7cf53_6 : decode cJ9_min_7cf53 6 = .ok (.goto 4, 3) := by decide +kernel
theorem dJ9_min_7cf53_9 : decode cJ9_min_7cf53 9 = .ok (.iload_n 1, 1) := by decide +kernel
theorem dJ9_min_7cf53_10 : decode cJ9_min_7cf53 10 = .ok (.ireturn, 1) := by decide +kernel
theorem dJxa1e45_init_da8c8_0 : decode cJxa1e45_init_da8c8 0 = .ok (.aload_n 0, 1) := by decide +kernel
theorem dJxa1e45_init_da8c8_1 : decode cJxa1e45_init_da8c8 1 = .ok (.invokespecial 1, 3) := by decide +kernel
theorem dJxa1e45_init_da8c8_4 : decode cJxa1e45_init_da8c8 4 = .ok (.return_, 1) := by decide +kernel
theorem dJxc12de_init_da8c8_0 : decode cJxc12de_init_da8c8 0 = .ok (.aload_n 0, 1) := by decide +kernel
theorem dJxc12de_init_da8c8_1 : decode cJxc12de_init_da8c8 1 = .ok (.invokespecial 1, 3) := by decide +kernel
theorem dJxc12de_init_da8c8_4 : decode cJxc12de_init_da8c8 4 = .ok (.aload_n 0, 1) := by decide +kernel
theorem dJxc12de_init_da8c8_5 : decode cJxc12de_init_da8c8 5 = .ok (.iconst 0, 1) := by decide +kernel
theorem dJxc12de_init_da8c8_6 : decode cJxc12de_init_da8c8 6 = .ok (.putfield 7, 3) := by decide +kernel
theorem dJxc12de_init_da8c8_9 : decode cJxc12de_init_da8c8 9 = .ok (.return_, 1) := by decide +kernel
theorem dJx4a65c_init_da8c8_0 : decode cJx4a65c_init_da8c8 0 = .ok (.aload_n 0, 1) := by decide +kernel
theorem dJx4a65c_init_da8c8_1 : decode cJx4a65c_init_da8c8 1 = .ok (.invokespecial 1, 3) := by decide +kernel
theorem dJx4a65c_init_da8c8_4 : decode cJx4a65c_init_da8c8 4 = .ok (.aload_n 0, 1) := by decide +kernel
theorem dJx4a65c_init_da8c8_5 : decode cJx4a65c_init_da8c8 5 = .ok (.getstatic 39, 3) := by decide +kernel
theorem dJx4a65c_init_da8c8_8 : decode cJx4a65c_init_da8c8 8 = .ok (.putfield 9, 3) := by decide +kernel
theorem dJx4a65c_init_da8c8_11 : decode cJx4a65c_init_da8c8 11 = .ok (.return_, 1) := by decide +kernel
theorem dJx4a65c_grow_92f84_0 : decode cJx4a65c_grow_92f84 0 = .ok (.aload_n 0, 1) := by decide +kernel
theorem dJx4a65c_grow_92f84_1 : decode cJx4a65c_grow_92f84 1 = .ok (.getfield 9, 3) := by decide +kernel
theorem dJx4a65c_grow_92f84_4 : decode cJx4a65c_grow_92f84 4 = .ok (.arraylength, 1) := by decide +kernel
theorem dJx4a65c_grow_92f84_5 : decode cJx4a65c_grow_92f84 5 = .ok (.istore_n 2, 1) := by decide +kernel
theorem dJx4a65c_grow_92f84_6 : decode cJx4a65c_grow_92f84 6 = .ok (.iload_n 2, 1) := by decide +kernel
theorem dJx4a65c_grow_92f84_7 : decode cJx4a65c_grow_92f84 7 = .ok (.ifCond .gt 13, 3) := by decide +kernel
theorem dJx4a65c_grow_92f84_10 : decode cJx4a65c_grow_92f84 10 = .ok (.aload_n 0, 1) := by decide +kernel
theorem dJx4a65c_grow_92f84_11 : decode cJx4a65c_grow_92f84 11 = .ok (.getfield 9, 3) := by decide +kernel
theorem dJx4a65c_grow_92f84_14 : decode cJx4a65c_grow_92f84 14 = .ok (.getstatic 39, 3) := by decide +kernel
theorem dJx4a65c_grow_92f84_17 : decode cJx4a65c_grow_92f84 17 = .ok (.if_acmp .eq 28, 3) := by decide +kernel
theorem dJx4a65c_grow_92f84_20 : decode cJx4a65c_grow_92f84 20 = .ok (.iload_n 2, 1) := by decide +kernel
theorem dJx4a65c_grow_92f84_21 : decode cJx4a65c_grow_92f84 21 = .ok (.iload_n 1, 1) := by decide +kernel
theorem dJx4a65c_grow_92f84_22 : decode cJx4a65c_grow_92f84 22 = .ok (.iload_n 2, 1) := by decide +kernel
theorem dJx4a65c_grow_92f84_23 : decode cJx4a65c_grow_92f84 23 = .ok (.isub, 1) := by decide +kernel
theorem dJx4a65c_grow_92f84_24 : decode cJx4a65c_grow_92f84 24 = .ok (.iload_n 2, 1) := by decide +kernel
theorem dJx4a65c_grow_92f84_25 : decode cJx4a65c_grow_92f84 25 = .ok (.iconst 1, 1) := by decide +kernel
theorem dJx4a65c_grow_92f84_26 : decode cJx4a65c_grow_92f84 26 = .ok (.ishr, 1) := by decide +kernel
theorem dJx4a65c_grow_92f84_27 : decode cJx4a65c_grow_92f84 27 = .ok (.invokestatic 73, 3) := by decide +kernel
theorem dJx4a65c_grow_92f84_30 : decode cJx4a65c_grow_92f84 30 = .ok (.istore_n 3, 1) := by decide +kernel
theorem dJx4a65c_grow_92f84_31 : decode cJx4a65c_grow_92f84 31 = .ok (.aload_n 0, 1) := by decide +kernel
theorem dJx4a65c_grow_92f84_32 : decode cJx4a65c_grow_92f84 32 = .ok (.aload_n 0, 1) := by decide +kernel
theorem dJx4a65c_grow_92f84_33 : decode cJx4a65c_grow_92f84 33 = .ok (.getfield 9, 3) := by decide +kernel
theorem dJx4a65c_grow_92f84_36 : decode cJx4a65c_grow_92f84 36 = .ok (.iload_n 3, 1) := by decide +kernel
theorem dJx4a65c_grow_92f84_37 : decode cJx4a65c_grow_92f84 37 = .ok (.invokestatic 66, 3) := by decide +kernel
theorem dJx4a65c_grow_92f84_40 : decode cJx4a65c_grow_92f84 40 = .ok (.dup_x1, 1) := by decide +kernel
theorem dJx4a65c_grow_92f84_41 : decode cJx4a65c_grow_92f84 41 = .ok (.putfield 9, 3) := by decide +kernel
theorem dJx4a65c_grow_92f84_44 : decode cJx4a65c_grow_92f84 44 = .ok (.areturn, 1) := by decide +kernel
theorem dJx4a65c_grow_92f84_45 : decode cJx4a65c_grow_92f84 45 = .ok (.aload_n 0, 1) := by decide +kernel
theorem dJx4a65c_grow_92f84_46 : decode cJx4a65c_grow_92f84 46 = .ok (.bipush 10, 2) := by decide +kernel
theorem dJx4a65c_grow_92f84_48 : decode cJx4a65c_grow_92f84 48 = .ok (.iload_n 1, 1) := by decide +kernel
theorem dJx4a65c_grow_92f84_49 : decode cJx4a65c_grow_92f84 49 = .ok (.invokestatic 79, 3) := by decide +kernel
theorem dJx4a65c_grow_92f84_52 : decode cJx4a65c_grow_92f84 52 = .ok (.anewarray 7, 3) := by decide +kernel
theorem dJx4a65c_grow_92f84_55 : decode cJx4a65c_grow_92f84 55 = .ok (.dup_x1, 1) := by decide +kernel
theorem dJx4a65c_grow_92f84_56 : decode cJx4a65c_grow_92f84 56 = .ok (.putfield 9, 3) := by decide +kernel
theorem dJx4a65c_grow_92f84_59 : decode cJx4a65c_grow_92f84 59 = .ok (.areturn, 1) := by decide +kernel
theorem dJx4a65c_grow_d5877_0 : decode cJx4a65c_grow_d5877 0 = .ok (.aload_n 0, 1) := by decide +kernel
theorem dJx4a65c_grow_d5877_1 : decode cJx4a65c_grow_d5877 1 = .ok (.aload_n 0, 1) := by decide +kernel
theorem dJx4a65c_grow_d5877_2 : decode cJx4a65c_grow_d5877 2 = .ok (.getfield 48, 3) := by decide +kernel
theorem dJx4a65c_grow_d5877_5 : decode cJx4a65c_grow_d5877 5 = .ok (.iconst 1, 1) := by decide +kernel
theorem dJx4a65c_grow_d5877_6 : decode cJx4a65c_grow_d5877 6 = .ok (.iadd, 1) := by decide +kernel
theorem dJx4a65c_grow_d5877_7 : decode cJx4a65c_grow_d5877 7 = .ok (.invokevirtual 69, 3) := by decide +kernel
theorem dJx4a65c_grow_d5877_10 : decode cJx4a65c_grow_d5877 10 = .ok (.areturn, 1) := by decide +kernel
theorem dJx4a65c_size_8abf5_0 : decode cJx4a65c_size_8abf5 0 = .ok (.aload_n 0, 1) := by decide +kernel
theorem dJx4a65c_size_8abf5_1 : decode cJx4a65c_size_8abf5 1 = .ok (.getfield 48, 3) := by decide +kernel
theorem dJx4a65c_size_8abf5_4 : decode cJx4a65c_size_8abf5 4 = .ok (.ireturn, 1) := by decide +kernel
theorem dJx4a65c_elementData_915e3_0 : decode cJx4a65c_elementData_915e3 0 = .ok (.aload_n 0, 1) := by decide +kernel
theorem dJx4a65c_elementData_915e3_1 : decode cJx4a65c_elementData_915e3 1 = .ok (.getfield 9, 3) := by decide +kernel
theorem dJx4a65c_elementData_915e3_4 : decode cJx4a65c_elementData_915e3 4 = .ok (.iload_n 1, 1) := by decide +kernel
theorem dJx4a65c_elementData_915e3_5 : decode cJx4a65c_elementData_915e3 5 = .ok (.aaload, 1) := by decide +kernel
theorem dJx4a65c_elementData_915e3_6 : decode cJx4a65c_elementData_915e3 6 = .ok (.areturn, 1) := by decide +kernel
theorem dJx4a65c_get_915e3_0 : decode cJx4a65c_get_915e3 0 = .ok (.iload_n 1, 1) := by decide +kernel
theorem dJx4a65c_get_915e3_1 : decode cJx4a65c_get_915e3 1 = .ok (.aload_n 0, 1) := by decide +kernel
theorem dJx4a65c_get_915e3_2 : decode cJx4a65c_get_915e3 2 = .ok (.getfield 48, 3) := by decide +kernel
theorem dJx4a65c_get_915e3_5 : decode cJx4a65c_get_915e3 5 = .ok (.invokestatic 118, 3) := by decide +kernel
theorem dJx4a65c_get_915e3_8 : decode cJx4a65c_get_915e3 8 = .ok (.pop, 1) := by decide +kernel
theorem dJx4a65c_get_915e3_9 : decode cJx4a65c_get_915e3 9 = .ok (.aload_n 0, 1) := by decide +kernel
theorem dJx4a65c_get_915e3_10 : decode cJx4a65c_get_915e3 10 = .ok (.iload_n 1, 1) := by decide +kernel
theorem dJx4a65c_get_915e3_11 : decode cJx4a65c_get_915e3 11 = .ok (.invokevirtual 123, 3) := by decide +kernel
theorem dJx4a65c_get_915e3_14 : decode cJx4a65c_get_915e3 14 = .ok (.areturn, 1) := by decide +kernel
theorem dJx4a65c_add_72be8_0 : decode cJx4a65c_add_72be8 0 = .ok (.iload_n 3, 1) := by decide +kernel
theorem dJx4a65c_add_72be8_1 : decode cJx4a65c_add_72be8 1 = .ok (.aload_n 2, 1) := by decide +kernel
theorem dJx4a65c_add_72be8_2 : decode cJx4a65c_add_72be8 2 = .ok (.arraylength, 1) := by decide +kernel
theorem dJx4a65c_add_72be8_3 : decode cJx4a65c_add_72be8 3 = .ok (.if_icmp .ne 8, 3) := by decide +kernel
theorem dJx4a65c_add_72be8_6 : decode cJx4a65c_add_72be8 6 = .ok (.aload_n 0, 1) := by decide +kernel
theorem dJx4a65c_add_72be8_7 : decode cJx4a65c_add_72be8 7 = .ok (.invokevirtual 129, 3) := by decide +kernel
theorem dJx4a65c_add_72be8_10 : decode cJx4a65c_add_72be8 10 = .ok (.astore_n 2, 1) := by decide +kernel
theorem dJx4a65c_add_72be8_11 : decode cJx4a65c_add_72be8 11 = .ok (.aload_n 2, 1) := by decide +kernel
theorem dJx4a65c_add_72be8_12 : decode cJx4a65c_add_72be8 12 = .ok (.iload_n 3, 1) := by decide +kernel
theorem dJx4a65c_add_72be8_13 : decode cJx4a65c_add_72be8 13 = .ok (.aload_n 1, 1) := by decide +kernel
theorem dJx4a65c_add_72be8_14 : decode cJx4a65c_add_72be8 14 = .ok (.aastore, 1) := by decide +kernel
theorem dJx4a65c_add_72be8_15 : decode cJx4a65c_add_72be8 15 = .ok (.aload_n 0, 1) := by decide +kernel
theorem dJx4a65c_add_72be8_16 : decode cJx4a65c_add_72be8 16 = .ok (.iload_n 3, 1) := by decide +kernel
theorem dJx4a65c_add_72be8_17 : decode cJx4a65c_add_72be8 17 = .ok (.iconst 1, 1) := by decide +kernel
theorem dJx4a65c_add_72be8_18 : decode cJx4a65c_add_72be8 18 = .ok (.iadd, 1) := by decide +kernel
theorem dJx4a65c_add_72be8_19 : decode cJx4a65c_add_72be8 19 = .ok (.putfield 48, 3) := by decide +kernel
theorem dJx4a65c_add_72be8_22 : decode cJx4a65c_add_72be8 22 = .ok (.return_, 1) := by decide +kernel
theorem dJx4a65c_add_9ea2d_0 : decode cJx4a65c_add_9ea2d 0 = .ok (.aload_n 0, 1) := by decide +kernel
theorem dJx4a65c_add_9ea2d_1 : decode cJx4a65c_add_9ea2d 1 = .ok (.dup, 1) := by decide +kernel
theorem dJx4a65c_add_9ea2d_2 : decode cJx4a65c_add_9ea2d 2 = .ok (.getfield 63, 3) := by decide +kernel
theorem dJx4a65c_add_9ea2d_5 : decode cJx4a65c_add_9ea2d 5 = .ok (.iconst 1, 1) := by decide +kernel
theorem dJx4a65c_add_9ea2d_6 : decode cJx4a65c_add_9ea2d 6 = .ok (.iadd, 1) := by decide +kernel
theorem dJx4a65c_add_9ea2d_7 : decode cJx4a65c_add_9ea2d 7 = .ok (.putfield 63, 3) := by decide +kernel
theorem dJx4a65c_add_9ea2d_10 : decode cJx4a65c_add_9ea2d 10 = .ok (.aload_n 0, 1) := by decide +kernel
theorem dJx4a65c_add_9ea2d_11 : decode cJx4a65c_add_9ea2d 11 = .ok (.aload_n 1, 1) := by decide +kernel
theorem dJx4a65c_add_9ea2d_12 : decode cJx4a65c_add_9ea2d 12 = .ok (.aload_n 0, 1) := by decide +kernel
theorem dJx4a65c_add_9ea2d_13 : decode cJx4a65c_add_9ea2d 13 = .ok (.getfield 9, 3) := by decide +kernel
theorem dJx4a65c_add_9ea2d_16 : decode cJx4a65c_add_9ea2d 16 = .ok (.aload_n 0, 1) := by decide +kernel
theorem dJx4a65c_add_9ea2d_17 : decode cJx4a65c_add_9ea2d 17 = .ok (.getfield 48, 3) := by decide +kernel
theorem dJx4a65c_add_9ea2d_20 : decode cJx4a65c_add_9ea2d 20 = .ok (.invokevirtual 131, 3) := by decide +kernel
theorem dJx4a65c_add_9ea2d_23 : decode cJx4a65c_add_9ea2d 23 = .ok (.iconst 1, 1) := by decide +kernel
theorem dJx4a65c_add_9ea2d_24 : decode cJx4a65c_add_9ea2d 24 = .ok (.ireturn, 1) := by decide +kernel
theorem dJx4a65c_remove_915e3_0 : decode cJx4a65c_remove_915e3 0 = .ok (.iload_n 1, 1) := by decide +kernel
theorem dJx4a65c_remove_915e3_1 : decode cJx4a65c_remove_915e3 1 = .ok (.aload_n 0, 1) := by decide +kernel
theorem dJx4a65c_remove_915e3_2 : decode cJx4a65c_remove_915e3 2 = .ok (.getfield 48, 3) := by decide +kernel
theorem dJx4a65c_remove_915e3_5 : decode cJx4a65c_remove_915e3 5 = .ok (.invokestatic 118, 3) := by decide +kernel
theorem dJx4a65c_remove_915e3_8 : decode cJx4a65c_remove_915e3 8 = .ok (.pop, 1) := by decide +kernel
theorem dJx4a65c_remove_915e3_9 : decode cJx4a65c_remove_915e3 9 = .ok (.aload_n 0, 1) := by decide +kernel
theorem dJx4a65c_remove_915e3_10 : decode cJx4a65c_remove_915e3 10 = .ok (.getfield 9, 3) := by decide +kernel
theorem dJx4a65c_remove_915e3_13 : decode cJx4a65c_remove_915e3 13 = .ok (.astore_n 2, 1) := by decide +kernel
theorem dJx4a65c_remove_915e3_14 : decode cJx4a65c_remove_915e3 14 = .ok (.aload_n 2, 1) := by decide +kernel
theorem dJx4a65c_remove_915e3_15 : decode cJx4a65c_remove_915e3 15 = .ok (.iload_n 1, 1) := by decide +kernel
theorem dJx4a65c_remove_915e3_16 : decode cJx4a65c_remove_915e3 16 = .ok (.aaload, 1) := by decide +kernel
theorem dJx4a65c_remove_915e3_17 : decode cJx4a65c_remove_915e3 17 = .ok (.astore_n 3, 1) := by decide +kernel
theorem dJx4a65c_remove_915e3_18 : decode cJx4a65c_remove_915e3 18 = .ok (.aload_n 0, 1) := by decide +kernel
theorem dJx4a65c_remove_915e3_19 : decode cJx4a65c_remove_915e3 19 = .ok (.aload_n 2, 1) := by decide +kernel
theorem dJx4a65c_remove_915e3_20 : decode cJx4a65c_remove_915e3 20 = .ok (.iload_n 1, 1) := by decide +kernel
theorem dJx4a65c_remove_915e3_21 : decode cJx4a65c_remove_915e3 21 = .ok (.invokevirtual 144, 3) := by decide +kernel
theorem dJx4a65c_remove_915e3_24 : decode cJx4a65c_remove_915e3 24 = .ok (.aload_n 3, 1) := by decide +kernel
theorem dJx4a65c_remove_915e3_25 : decode cJx4a65c_remove_915e3 25 = .ok (.areturn, 1) := by decide +kernel
theorem dJx4a65c_fastRemove_b59b0_0 : decode cJx4a65c_fastRemove_b59b0 0 = .ok (.aload_n 0, 1) := by decide +kernel
theorem dJx4a65c_fastRemove_b59b0_1 : decode cJx4a65c_fastRemove_b59b0 1 = .ok (.dup, 1) := by decide +kernel
theorem dJx4a65c_fastRemove_b59b0_2 : decode cJx4a65c_fastRemove_b59b0 2 = .ok (.getfield 63, 3) := by decide +kernel
theorem dJx4a65c_fastRemove_b59b0_5 : decode cJx4a65c_fastRemove_b59b0 5 = .ok (.iconst 1, 1) := by decide +kernel
theorem dJx4a65c_fastRemove_b59b0_6 : decode cJx4a65c_fastRemove_b59b0 6 = .ok (.iadd, 1) := by decide +kernel
theorem dJx4a65c_fastRemove_b59b0_7 : decode cJx4a65c_fastRemove_b59b0 7 = .ok (.putfield 63, 3) := by decide +kernel
theorem dJx4a65c_fastRemove_b59b0_10 : decode cJx4a65c_fastRemove_b59b0 10 = .ok (.aload_n 0, 1) := by decide +kernel
theorem dJx4a65c_fastRemove_b59b0_11 : decode cJx4a65c_fastRemove_b59b0 11 = .ok (.getfield 48, 3) := by decide +kernel
theorem dJx4a65c_fastRemove_b59b0_14 : decode cJx4a65c_fastRemove_b59b0 14 = .ok (.iconst 1, 1) := by decide +kernel
theorem dJx4a65c_fastRemove_b59b0_15 : decode cJx4a65c_fastRemove_b59b0 15 = .ok (.isub, 1) := by decide +kernel
theorem dJx4a65c_fastRemove_b59b0_16 : decode cJx4a65c_fastRemove_b59b0 16 = .ok (.dup, 1) := by decide +kernel
theorem dJx4a65c_fastRemove_b59b0_17 : decode cJx4a65c_fastRemove_b59b0 17 = .ok (.istore_n 3, 1) := by decide +kernel
theorem dJx4a65c_fastRemove_b59b0_18 : decode cJx4a65c_fastRemove_b59b0 18 = .ok (.iload_n 2, 1) := by decide +kernel
theorem dJx4a65c_fastRemove_b59b0_19 : decode cJx4a65c_fastRemove_b59b0 19 = .ok (.if_icmp .le 15, 3) := by decide +kernel
theorem dJx4a65c_fastRemove_b59b0_22 : decode cJx4a65c_fastRemove_b59b0 22 = .ok (.aload_n 1, 1) := by decide +kernel
theorem dJx4a65c_fastRemove_b59b0_23 : decode cJx4a65c_fastRemove_b59b0 23 = .ok (.iload_n 2, 1) := by decide +kernel
theorem dJx4a65c_fastRemove_b59b0_24 : decode cJx4a65c_fastRemove_b59b0 24 = .ok (.iconst 1, 1) := by decide +kernel
theorem dJx4a65c_fastRemove_b59b0_25 : decode cJx4a65c_fastRemove_b59b0 25 = .ok (.iadd, 1) := by decide +kernel
theorem dJx4a65c_fastRemove_b59b0_26 : decode cJx4a65c_fastRemove_b59b0 26 = .ok (.aload_n 1, 1) := by decide +kernel
theorem dJx4a65c_fastRemove_b59b0_27 : decode cJx4a65c_fastRemove_b59b0 27 = .ok (.iload_n 2, 1) := by decide +kernel
theorem dJx4a65c_fastRemove_b59b0_28 : decode cJx4a65c_fastRemove_b59b0 28 = .ok (.iload_n 3, 1) := by decide +kernel
theorem dJx4a65c_fastRemove_b59b0_29 : decode cJx4a65c_fastRemove_b59b0 29 = .ok (.iload_n 2, 1) := by decide +kernel
theorem dJx4a65c_fastRemove_b59b0_30 : decode cJx4a65c_fastRemove_b59b0 30 = .ok (.isub, 1) := by decide +kernel
theorem dJx4a65c_fastRemove_b59b0_31 : decode cJx4a65c_fastRemove_b59b0 31 = .ok (.invokestatic 112, 3) := by decide +kernel
theorem dJx4a65c_fastRemove_b59b0_34 : decode cJx4a65c_fastRemove_b59b0 34 = .ok (.aload_n 1, 1) := by decide +kernel
theorem dJx4a65c_fastRemove_b59b0_35 : decode cJx4a65c_fastRemove_b59b0 35 = .ok (.aload_n 0, 1) := by decide +kernel
theorem dJx4a65c_fastRemove_b59b0_36 : decode cJx4a65c_fastRemove_b59b0 36 = .ok (.iload_n 3, 1) := by decide +kernel
theorem dJx4a65c_fastRemove_b59b0_37 : decode cJx4a65c_fastRemove_b59b0 37 = .ok (.dup_x1, 1) := by decide +kernel
theorem dJx4a65c_fastRemove_b59b0_38 : decode cJx4a65c_fastRemove_b59b0 38 = .ok (.putfield 48, 3) := by decide +kernel
theorem dJx4a65c_fastRemove_b59b0_41 : decode cJx4a65c_fastRemove_b59b0 41 = .ok (.aconst_null, 1) := by decide +kernel
theorem dJx4a65c_fastRemove_b59b0_42 : decode cJx4a65c_fastRemove_b59b0 42 = .ok (.aastore, 1) := by decide +kernel
theorem dJx4a65c_fastRemove_b59b0_43 : decode cJx4a65c_fastRemove_b59b0 43 = .ok (.return_, 1) := by decide +kernel
theorem dJ7_copyOf_1904c_0 : decode cJ7_copyOf_1904c 0 = .ok (.aload_n 0, 1) := by decide +kernel
theorem dJ7_copyOf_1904c_1 : decode cJ7_copyOf_1904c 1 = .ok (.iload_n 1, 1) := by decide +kernel
theorem dJ7_copyOf_1904c_2 : decode cJ7_copyOf_1904c 2 = .ok (.aload_n 0, 1) := by decide +kernel
theorem dJ7_copyOf_1904c_3 : decode cJ7_copyOf_1904c 3 = .ok (.invokevirtual 86, 3) := by decide +kernel
theorem dJ7_copyOf_1904c_6 : decode cJ7_copyOf_1904c 6 = .ok (.invokestatic 300, 3) := by decide +kernel
theorem dJ7_copyOf_1904c_9 : decode cJ7_copyOf_1904c 9 = .ok (.areturn, 1) := by decide +kernel
theorem dJ7_copyOf_6403c_0 : decode cJ7_copyOf_6403c 0 = .ok (.aload_n 2, 1) := by decide +kernel
theorem dJ7_copyOf_6403c_1 : decode cJ7_copyOf_6403c 1 = .ok (.ldc 110, 2) := by decide +kernel
theorem dJ7_copyOf_6403c_3 : decode cJ7_copyOf_6403c 3 = .ok (.if_acmp .ne 10, 3) := by decide +kernel
theorem dJ7_copyOf_6403c_6 : decode cJ7_copyOf_6403c 6 = .ok (.iload_n 1, 1) := by decide +kernel
theorem dJ7_copyOf_6403c_7 : decode cJ7_copyOf_6403c 7 = .ok (.anewarray 2, 3) := by decide +kernel
theorem dJ7_copyOf_6403c_10 : decode cJ7_copyOf_6403c 10 = .ok (.goto 14, 3) := by decide +kernel
theorem dJ7_copyOf_6403c_13 : decode cJ7_copyOf_6403c 13 = .ok (.aload_n 2, 1) := by decide +kernel
theorem dJ7_copyOf_6403c_14 : decode cJ7_copyOf_6403c 14 = .ok (.invokevirtual 90, 3) := by decide +kernel
theorem dJ7_copyOf_6403c_17 : decode cJ7_copyOf_6403c 17 = .ok (.iload_n 1, 1) := by decide +kernel
theorem dJ7_copyOf_6403c_18 : decode cJ7_copyOf_6403c 18 = .ok (.invokestatic 95, 3) := by decide +kernel
theorem dJ7_copyOf_6403c_21 : decode cJ7_copyOf_6403c 21 = .ok (.checkcast 110, 3) := by decide +kernel
theorem dJ7_copyOf_6403c_24 : decode cJ7_copyOf_6403c 24 = .ok (.astore_n 3, 1) := by decide +kernel
theorem dJ7_copyOf_6403c_25 : decode cJ7_copyOf_6403c 25 = .ok (.aload_n 0, 1) := by decide +kernel
theorem dJ7_copyOf_6403c_26 : decode cJ7_copyOf_6403c 26 = .ok (.iconst 0, 1) := by decide +kernel
theorem dJ7_copyOf_6403c_27 : decode cJ7_copyOf_6403c 27 = .ok (.aload_n 3, 1) := by decide +kernel
theorem dJ7_copyOf_6403c_28 : decode cJ7_copyOf_6403c 28 = .ok (.iconst 0, 1) := by decide +kernel
theorem dJ7_copyOf_6403c_29 : decode cJ7_copyOf_6403c 29 = .ok (.aload_n 0, 1) := by decide +kernel
theorem dJ7_copyOf_6403c_30 : decode cJ7_copyOf_6403c 30 = .ok (.arraylength, 1) := by decide +kernel
theorem dJ7_copyOf_6403c_31 : decode cJ7_copyOf_6403c 31 = .ok (.iload_n 1, 1) := by decide +kernel
theorem dJ7_copyOf_6403c_32 : decode cJ7_copyOf_6403c 32 = .ok (.invokestatic 304, 3) := by decide +kernel
theorem dJ7_copyOf_6403c_35 : decode cJ7_copyOf_6403c 35 = .ok (.invokestatic 150, 3) := by decide +kernel
theorem dJ7_copyOf_6403c_38 : decode cJ7_copyOf_6403c 38 = .ok (.aload_n 3, 1) := by decide +kernel
theorem dJ7_copyOf_6403c_39 : decode cJ7_copyOf_6403c 39 = .ok (.areturn, 1) := by decide +kernel
theorem dJ15_checkIndex_7cf53_0 : decode cJ15_checkIndex_7cf53 0 = .ok (.iload_n 0, 1) := by decide +kernel
theorem dJ15_checkIndex_7cf53_1 : decode cJ15_checkIndex_7cf53 1 = .ok (.iload_n 1, 1) := by decide +kernel
theorem dJ15_checkIndex_7cf53_2 : decode cJ15_checkIndex_7cf53 2 = .ok (.aconst_null, 1) := by decide +kernel
theorem dJ15_checkIndex_7cf53_3 : decode cJ15_checkIndex_7cf53 3 = .ok (.invokestatic 105, 3) := by decide +kernel
theorem dJ15_checkIndex_7cf53_6 : decode cJ15_checkIndex_7cf53 6 = .ok (.ireturn, 1) := by decide +kernel
theorem dJ8_newLength_cabcc_0 : decode cJ8_newLength_cabcc 0 = .ok (.iload_n 0, 1) := by decide +kernel
theorem dJ8_newLength_cabcc_1 : decode cJ8_newLength_cabcc 1 = .ok (.iload_n 1, 1) := by decide +kernel
theorem dJ8_newLength_cabcc_2 : decode cJ8_newLength_cabcc 2 = .ok (.iload_n 2, 1) := by decide +kernel
theorem dJ8_newLength_cabcc_3 : decode cJ8_newLength_cabcc 3 = .ok (.invokestatic 194, 3) := by decide +kernel
theorem dJ8_newLength_cabcc_6 : decode cJ8_newLength_cabcc 6 = .ok (.iadd, 1) := by decide +kernel
theorem dJ8_newLength_cabcc_7 : decode cJ8_newLength_cabcc 7 = .ok (.istore_n 3, 1) := by decide +kernel
theorem dJ8_newLength_cabcc_8 : decode cJ8_newLength_cabcc 8 = .ok (.iconst 0, 1) := by decide +kernel
theorem dJ8_newLength_cabcc_9 : decode cJ8_newLength_cabcc 9 = .ok (.iload_n 3, 1) := by decide +kernel
theorem dJ8_newLength_cabcc_10 : decode cJ8_newLength_cabcc 10 = .ok (.if_icmp .ge 11, 3) := by decide +kernel
theorem dJ8_newLength_cabcc_13 : decode cJ8_newLength_cabcc 13 = .ok (.iload_n 3, 1) := by decide +kernel
theorem dJ8_newLength_cabcc_14 : decode cJ8_newLength_cabcc 14 = .ok (.ldc 200, 2) := by decide +kernel
theorem dJ8_newLength_cabcc_16 : decode cJ8_newLength_cabcc 16 = .ok (.if_icmp .gt 5, 3) := by decide +kernel
theorem dJ8_newLength_cabcc_19 : decode cJ8_newLength_cabcc 19 = .ok (.iload_n 3, 1) := by decide +kernel
theorem dJ8_newLength_cabcc_20 : decode cJ8_newLength_cabcc 20 = .ok (.ireturn, 1) := by decide +kernel
theorem dJ8_newLength_cabcc_21 : decode cJ8_newLength_cabcc 21 = .ok (.iload_n 0, 1) := by decide +kernel
theorem dJ8_newLength_cabcc_22 : decode cJ8_newLength_cabcc 22 = .ok (.iload_n 1, 1) := by decide +kernel
theorem dJ8_newLength_cabcc_23 : decode cJ8_newLength_cabcc 23 = .ok (.invokestatic 201, 3) := by decide +kernel
theorem dJ8_newLength_cabcc_26 : decode cJ8_newLength_cabcc 26 = .ok (.ireturn, 1) := by decide +kernel
theorem dJ8_hugeLength_7cf53_0 : decode cJ8_hugeLength_7cf53 0 = .ok (.iload_n 0, 1) := by decide +kernel
theorem dJ8_hugeLength_7cf53_1 : decode cJ8_hugeLength_7cf53 1 = .ok (.iload_n 1, 1) := by decide +kernel
theorem dJ8_hugeLength_7cf53_2 : decode cJ8_hugeLength_7cf53 2 = .ok (.iadd, 1) := by decide +kernel
theorem dJ8_hugeLength_7cf53_3 : decode cJ8_hugeLength_7cf53 3 = .ok (.istore_n 2, 1) := by decide +kernel
theorem dJ8_hugeLength_7cf53_4 : decode cJ8_hugeLength_7cf53 4 = .ok (.iload_n 2, 1) := by decide +kernel
theorem dJ8_hugeLength_7cf53_5 : decode cJ8_hugeLength_7cf53 5 = .ok (.ifCond .ge 44, 3) := by decide +kernel
theorem dJ8_hugeLength_7cf53_8 : decode cJ8_hugeLength_7cf53 8 = .ok (.new 204, 3) := by decide +kernel
theorem dJ8_hugeLength_7cf53_11 : decode cJ8_hugeLength_7cf53 11 = .ok (.dup, 1) := by decide +kernel
theorem dJ8_hugeLength_7cf53_12 : decode cJ8_hugeLength_7cf53 12 = .ok (.new 89, 3) := by decide +kernel
theorem dJ8_hugeLength_7cf53_15 : decode cJ8_hugeLength_7cf53 15 = .ok (.dup, 1) := by decide +kernel
theorem dJ8_hugeLength_7cf53_16 : decode cJ8_hugeLength_7cf53 16 = .ok (.invokespecial 91, 3) := by decide +kernel
theorem dJ8_hugeLength_7cf53_19 : decode cJ8_hugeLength_7cf53 19 = .ok (.ldc 206, 2) := by decide +kernel
theorem dJ8_hugeLength_7cf53_21 : decode cJ8_hugeLength_7cf53 21 = .ok (.invokevirtual 94, 3) := by decide +kernel
theorem dJ8_hugeLength_7cf53_24 : decode cJ8_hugeLength_7cf53 24 = .ok (.iload_n 0, 1) := by decide +kernel
theorem dJ8_hugeLength_7cf53_25 : decode cJ8_hugeLength_7cf53 25 = .ok (.invokevirtual 98, 3) := by decide +kernel
theorem dJ8_hugeLength_7cf53_28 : decode cJ8_hugeLength_7cf53 28 = .ok (.ldc 208, 2) := by decide +kernel
theorem dJ8_hugeLength_7cf53_30 : decode cJ8_hugeLength_7cf53 30 = .ok (.invokevirtual 94, 3) := by decide +kernel
theorem dJ8_hugeLength_7cf53_33 : decode cJ8_hugeLength_7cf53 33 = .ok (.iload_n 1, 1) := by decide +kernel
theorem dJ8_hugeLength_7cf53_34 : decode cJ8_hugeLength_7cf53 34 = .ok (.invokevirtual 98, 3) := by decide +kernel
theorem dJ8_hugeLength_7cf53_37 : decode cJ8_hugeLength_7cf53 37 = .ok (.ldc 210, 2) := by decide +kernel
theorem dJ8_hugeLength_7cf53_39 : decode cJ8_hugeLength_7cf53 39 = .ok (.invokevirtual 94, 3) := by decide +kernel
theorem dJ8_hugeLength_7cf53_42 : decode cJ8_hugeLength_7cf53 42 = .ok (.invokevirtual 101, 3) := by decide +kernel
theorem dJ8_hugeLength_7cf53_45 : decode cJ8_hugeLength_7cf53 45 = .ok (.invokespecial 212, 3) := by decide +kernel
theorem dJ8_hugeLength_7cf53_48 : decode cJ8_hugeLength_7cf53 48 = .ok (.athrow, 1) := by decide +kernel
theorem dJ8_hugeLength_7cf53_49 : decode cJ8_hugeLength_7cf53 49 = .ok (.iload_n 2, 1) := by decide +kernel
theorem dJ8_hugeLength_7cf53_50 : decode cJ8_hugeLength_7cf53 50 = .ok (.ldc 200, 2) := by decide +kernel
theorem dJ8_hugeLength_7cf53_52 : decode cJ8_hugeLength_7cf53 52 = .ok (.if_icmp .gt 6, 3) := by decide +kernel
theorem dJ8_hugeLength_7cf53_55 : decode cJ8_hugeLength_7cf53 55 = .ok (.ldc 200, 2) := by decide +kernel
theorem dJ8_hugeLength_7cf53_57 : decode cJ8_hugeLength_7cf53 57 = .ok (.ireturn, 1) := by decide +kernel
theorem dJ8_hugeLength_7cf53_58 : decode cJ8_hugeLength_7cf53 58 = .ok (.iload_n 2, 1) := by decide +kernel
theorem dJ8_hugeLength_7cf53_59 : decode cJ8_hugeLength_7cf53 59 = .ok (.ireturn, 1) := by decide +kernel
theorem dJ3_checkIndex_8e157_0 : decode cJ3_checkIndex_8e157 0 = .ok (.iload_n 0, 1) := by decide +kernel
theorem dJ3_checkIndex_8e157_1 : decode cJ3_checkIndex_8e157 1 = .ok (.ifCond .lt 8, 3) := by decide +kernel
theorem dJ3_checkIndex_8e157_4 : decode cJ3_checkIndex_8e157 4 = .ok (.iload_n 0, 1) := by decide +kernel
theorem dJ3_checkIndex_8e157_5 : decode cJ3_checkIndex_8e157 5 = .ok (.iload_n 1, 1) := by decide +kernel
theorem dJ3_checkIndex_8e157_6 : decode cJ3_checkIndex_8e157 6 = .ok (.if_icmp .lt 10, 3) := by decide +kernel
theorem dJ3_checkIndex_8e157_9 : decode cJ3_checkIndex_8e157 9 = .ok (.aload_n 2, 1) := by decide +kernel
theorem dJ3_checkIndex_8e157_10 : decode cJ3_checkIndex_8e157 10 = .ok (.iload_n 0, 1) := by decide +kernel
theorem dJ3_checkIndex_8e157_11 : decode cJ3_checkIndex_8e157 11 = .ok (.iload_n 1, 1) := by decide +kernel
theorem dJ3_checkIndex_8e157_12 : decode cJ3_checkIndex_8e157 12 = .ok (.invokestatic 95, 3) := by decide +kernel
theorem dJ3_checkIndex_8e157_15 : decode cJ3_checkIndex_8e157 15 = .ok (.athrow, 1) := by decide +kernel
theorem dJ3_checkIndex_8e157_16 : decode cJ3_checkIndex_8e157 16 = .ok (.iload_n 0, 1) := by decide +kernel
theorem dJ3_checkIndex_8e157_17 : decode cJ3_checkIndex_8e157 17 = .ok (.ireturn, 1) := by decide +kernel
