theorem dX4_findHeld_0 : decode cX4_findHeld 0 = .ok (.iconst 0, 1) := by decide +kernel
theorem dX4_findHeld_1 : decode cX4_findHeld 1 = .ok (.istore_n 2, 1) := by decide +kernel
theorem dX4_findHeld_2 : decode cX4_findHeld 2 = .ok (.iload_n 2, 1) := by decide +kernel
theorem dX4_findHeld_3 : decode cX4_findHeld 3 = .ok (.bipush 8, 2) := by decide +kernel
theorem dX4_findHeld_5 : decode cX4_findHeld 5 = .ok (.if_icmp .ge 24, 3) := by decide +kernel
theorem dX4_findHeld_8 : decode cX4_findHeld 8 = .ok (.aload_n 0, 1) := by decide +kernel
theorem dX4_findHeld_9 : decode cX4_findHeld 9 = .ok (.getfield 26, 3) := by decide +kernel
theorem dX4_findHeld_12 : decode cX4_findHeld 12 = .ok (.getfield 209, 3) := by decide +kernel
theorem dX4_findHeld_15 : decode cX4_findHeld 15 = .ok (.iload_n 2, 1) := by decide +kernel
theorem dX4_findHeld_16 : decode cX4_findHeld 16 = .ok (.aload_n 0, 1) := by decide +kernel
theorem dX4_findHeld_17 : decode cX4_findHeld 17 = .ok (.iload_n 2, 1) := by decide +kernel
theorem dX4_findHeld_18 : decode cX4_findHeld 18 = .ok (.aload_n 1, 1) := by decide +kernel
theorem dX4_findHeld_19 : decode cX4_findHeld 19 = .ok (.invokevirtual 118, 3) := by decide +kernel
theorem dX4_findHeld_22 : decode cX4_findHeld 22 = .ok (.iastore, 1) := by decide +kernel
theorem dX4_findHeld_23 : decode cX4_findHeld 23 = .ok (.iinc 2 1, 3) := by decide +kernel
theorem dX4_findHeld_26 : decode cX4_findHeld 26 = .ok (.goto (-24), 3) := by decide +kernel
theorem dX4_findHeld_29 : decode cX4_findHeld 29 = .ok (.return_, 1) := by decide +kernel
set_option maxRecDepth 20000 in
theorem ggX4_mapWith_X2_everyoneIn : GoodIn wsX4_mapWith wsX2_everyoneIn := goodIn_r _ [8, 9, 58, 59, 60] (by decide +kernel) (by decide +kernel)
set_option maxRecDepth 20000 in
theorem gX4_mapWith_X2_everyoneIn : GoodIn wsX4_mapWith (wsV RX4 68 RX2 yX2_everyoneIn wsX2_everyoneIn) := goodIn_app (goodIn_of _ (by decide +kernel)) ggX4_mapWith_X2_everyoneIn
set_option maxRecDepth 20000 in
theorem ggX4_mapWith_X3_make : GoodIn wsX4_mapWith wsX3_make := goodIn_r _ [14, 15, 16, 17, 18, 19, 20, 13, 21, 22, 23, 24, 25, 26, 27, 28, 29, 30, 31, 32, 33, 34, 35, 36, 37, 38, 39, 40, 41, 42, 43, 44, 45, 46, 47, 61, 62, 63, 64, 65, 66, 67] (by decide +kernel) (by decide +kernel)
set_option maxRecDepth 20000 in
theorem gX4_mapWith_X3_make : GoodIn wsX4_mapWith (wsV RX4 212 RX3 yX3_make wsX3_make) := goodIn_app (goodIn_of _ (by decide +kernel)) ggX4_mapWith_X3_make
theorem dX4_mapWith_0 : decode cX4_mapWith 0 = .ok (.iload_n 2, 1) := by decide +kernel
theorem dX4_mapWith_1 : decode cX4_mapWith 1 = .ok (.iconst (-1), 1) := by decide +kernel
theorem dX4_mapWith_2 : decode cX4_mapWith 2 = .ok (.if_icmp .ne 7, 3) := by decide +kernel
theorem dX4_mapWith_5 : decode cX4_mapWith 5 = .ok (.iconst 0, 1) := by decide +kernel
theorem dX4_mapWith_6 : decode cX4_mapWith 6 = .ok (.goto 11, 3) := by decide +kernel
theorem dX4_mapWith_9 : decode cX4_mapWith 9 = .ok (.aload_n 0, 1) := by decide +kernel
theorem dX4_mapWith_10 : decode cX4_mapWith 10 = .ok (.getfield 12, 3) := by decide +kernel
theorem dX4_mapWith_13 : decode cX4_mapWith 13 = .ok (.iload_n 2, 1) := by decide +kernel
theorem dX4_mapWith_14 : decode cX4_mapWith 14 = .ok (.invokevirtual 68, 3) := by decide +kernel
theorem dX4_mapWith_17 : decode cX4_mapWith 17 = .ok (.istore_n 3, 1) := by decide +kernel
theorem dX4_mapWith_18 : decode cX4_mapWith 18 = .ok (.aload_n 0, 1) := by decide +kernel
theorem dX4_mapWith_19 : decode cX4_mapWith 19 = .ok (.getfield 26, 3) := by decide +kernel
theorem dX4_mapWith_22 : decode cX4_mapWith 22 = .ok (.aload_n 1, 1) := by decide +kernel
theorem dX4_mapWith_23 : decode cX4_mapWith 23 = .ok (.getfield 81, 3) := by decide +kernel
theorem dX4_mapWith_26 : decode cX4_mapWith 26 = .ok (.iload_n 2, 1) := by decide +kernel
theorem dX4_mapWith_27 : decode cX4_mapWith 27 = .ok (.iload_n 3, 1) := by decide +kernel
theorem dX4_mapWith_28 : decode cX4_mapWith 28 = .ok (.invokevirtual 212, 3) := by decide +kernel
theorem dX4_mapWith_31 : decode cX4_mapWith 31 = .ok (.return_, 1) := by decide +kernel
set_option maxRecDepth 20000 in
theorem ggX4_mappingOf_X4_findHeld : GoodIn wsX4_mappingOf wsX4_findHeld := goodIn_r _ [7, 1, 8, 9, 10, 11, 6, 12, 13, 14, 15, 16, 17, 18, 19, 20, 21, 22, 23, 24, 25, 26, 27, 28, 29, 30, 31, 32, 33, 34, 35, 36, 37, 38, 39, 40, 41, 42, 43, 44, 45, 46, 47, 48, 49, 50, 51, 52, 53, 54, 55, 56, 57, 58, 59, 60, 61, 62, 63, 64, 65, 66, 67, 68, 108, 109, 110, 111, 112, 113, 114, 115, 116, 117, 118, 119, 120, 121, 122, 123, 124, 125, 126, 127, 128, 129, 130, 131, 132, 133, 134] (by decide +kernel) (by decide +kernel)
set_option maxRecDepth 20000 in
theorem gX4_mappingOf_X4_findHeld : GoodIn wsX4_mappingOf (wsV RX4 148 RX4 yX4_findHeld wsX4_findHeld) := goodIn_app (goodIn_of _ (by decide +kernel)) ggX4_mappingOf_X4_findHeld
set_option maxRecDepth 20000 in
theorem ggX4_mappingOf_X4_mapWith : GoodIn wsX4_mappingOf wsX4_mapWith := goodIn_r _ [72, 52, 1, 13, 53, 54, 55, 56, 57, 58, 73, 74, 75, 76, 77, 78, 79, 80, 81, 82, 83, 84, 85, 86, 87, 88, 89, 90, 91, 92, 60, 6, 61, 93, 94, 95, 96, 97, 98, 99, 100, 101, 102, 103, 104, 105, 106, 107, 108, 109, 110, 118, 119, 120, 121, 122, 123, 124, 132, 133, 134, 111, 112, 113, 114, 115, 116, 117] (by decide +kernel) (by decide +kernel)
set_option maxRecDepth 20000 in
theorem gX4_mappingOf_X4_mapWith : GoodIn wsX4_mappingOf (wsV RX4 152 RX4 yX4_mapWith wsX4_mapWith) := goodIn_app (goodIn_of _ (by decide +kernel)) ggX4_mappingOf_X4_mapWith
theorem dX4_mappingOf_0 : decode cX4_mappingOf 0 = .ok (.aload_n 0, 1) := by decide +kernel
theorem dX4_mappingOf_1 : decode cX4_mappingOf 1 = .ok (.aload_n 1, 1) := by decide +kernel
theorem dX4_mappingOf_2 : decode cX4_mappingOf 2 = .ok (.invokevirtual 148, 3) := by decide +kernel
theorem dX4_mappingOf_5 : decode cX4_mappingOf 5 = .ok (.aload_n 0, 1) := by decide +kernel
theorem dX4_mappingOf_6 : decode cX4_mappingOf 6 = .ok (.aload_n 1, 1) := by decide +kernel
theorem dX4_mappingOf_7 : decode cX4_mappingOf 7 = .ok (.iconst (-1), 1) := by decide +kernel
theorem dX4_mappingOf_8 : decode cX4_mappingOf 8 = .ok (.invokevirtual 152, 3) := by decide +kernel
theorem dX4_mappingOf_11 : decode cX4_mappingOf 11 = .ok (.aload_n 0, 1) := by decide +kernel
theorem dX4_mappingOf_12 : decode cX4_mappingOf 12 = .ok (.getfield 26, 3) := by decide +kernel
theorem dX4_mappingOf_15 : decode cX4_mappingOf 15 = .ok (.getfield 145, 3) := by decide +kernel
theorem dX4_mappingOf_18 : decode cX4_mappingOf 18 = .ok (.istore_n 2, 1) := by decide +kernel
theorem dX4_mappingOf_19 : decode cX4_mappingOf 19 = .ok (.iconst (-1), 1) := by decide +kernel
theorem dX4_mappingOf_20 : decode cX4_mappingOf 20 = .ok (.istore_n 3, 1) := by decide +kernel
theorem dX4_mappingOf_21 : decode cX4_mappingOf 21 = .ok (.iconst 0, 1) := by decide +kernel
theorem dX4_mappingOf_22 : decode cX4_mappingOf 22 = .ok (.istore 4, 2) := by decide +kernel
theorem dX4_mappingOf_24 : decode cX4_mappingOf 24 = .ok (.iload 4, 2) := by decide +kernel
theorem dX4_mappingOf_26 : decode cX4_mappingOf 26 = .ok (.bipush 6, 2) := by decide +kernel
theorem dX4_mappingOf_28 : decode cX4_mappingOf 28 = .ok (.if_icmp .ge 38, 3) := by decide +kernel
theorem dX4_mappingOf_31 : decode cX4_mappingOf 31 = .ok (.aload_n 0, 1) := by decide +kernel
theorem dX4_mappingOf_32 : decode cX4_mappingOf 32 = .ok (.aload_n 1, 1) := by decide +kernel
theorem dX4_mappingOf_33 : decode cX4_mappingOf 33 = .ok (.iload 4, 2) := by decide +kernel
theorem dX4_mappingOf_35 : decode cX4_mappingOf 35 = .ok (.invokevirtual 152, 3) := by decide +kernel
theorem dX4_mappingOf_38 : decode cX4_mappingOf 38 = .ok (.aload_n 0, 1) := by decide +kernel
theorem dX4_mappingOf_39 : decode cX4_mappingOf 39 = .ok (.getfield 26, 3) := by decide +kernel
theorem dX4_mappingOf_42 : decode cX4_mappingOf 42 = .ok (.getfield 145, 3) := by decide +kernel
theorem dX4_mappingOf_45 : decode cX4_mappingOf 45 = .ok (.iload_n 2, 1) := by decide +kernel
theorem dX4_mappingOf_46 : decode cX4_mappingOf 46 = .ok (.if_icmp .ge 14, 3) := by decide +kernel
theorem dX4_mappingOf_49 : decode cX4_mappingOf 49 = .ok (.aload_n 0, 1) := by decide +kernel
theorem dX4_mappingOf_50 : decode cX4_mappingOf 50 = .ok (.getfield 26, 3) := by decide +kernel
theorem dX4_mappingOf_53 : decode cX4_mappingOf 53 = .ok (.getfield 145, 3) := by decide +kernel
theorem dX4_mappingOf_56 : decode cX4_mappingOf 56 = .ok (.istore_n 2, 1) := by decide +kernel
theorem dX4_mappingOf_57 : decode cX4_mappingOf 57 = .ok (.iload 4, 2) := by decide +kernel
theorem dX4_mappingOf_59 : decode cX4_mappingOf 59 = .ok (.istore_n 3, 1) := by decide +kernel
theorem dX4_mappingOf_60 : decode cX4_mappingOf 60 = .ok (.iinc 4 1, 3) := by decide +kernel
theorem dX4_mappingOf_63 : decode cX4_mappingOf 63 = .ok (.goto (-39), 3) := by decide +kernel
theorem dX4_mappingOf_66 : decode cX4_mappingOf 66 = .ok (.aload_n 0, 1) := by decide +kernel
theorem dX4_mappingOf_67 : decode cX4_mappingOf 67 = .ok (.aload_n 1, 1) := by decide +kernel
theorem dX4_mappingOf_68 : decode cX4_mappingOf 68 = .ok (.iload_n 3, 1) := by decide +kernel
theorem dX4_mappingOf_69 : decode cX4_mappingOf 69 = .ok (.invokevirtual 152, 3) := by decide +kernel
theorem dX4_mappingOf_72 : decode cX4_mappingOf 72 = .ok (.aload_n 0, 1) := by decide +kernel
theorem dX4_mappingOf_73 : decode cX4_mappingOf 73 = .ok (.getfield 26, 3) := by decide +kernel
theorem dX4_mappingOf_76 : decode cX4_mappingOf 76 = .ok (.areturn, 1) := by decide +kernel
theorem dX5_init_0 : decode cX5_init 0 = .ok (.aload_n 0, 1) := by decide +kernel
theorem dX5_init_1 : decode cX5_init 1 = .ok (.invokespecial 1, 3) := by decide +kernel
theorem dX5_init_4 : decode cX5_init 4 = .ok (.aload_n 0, 1) := by decide +kernel
theorem dX5_init_5 : decode cX5_init 5 = .ok (.bipush 6, 2) := by decide +kernel
theorem dX5_init_7 : decode cX5_init 7 = .ok (.newarray .int, 2) := by decide +kernel
theorem dX5_init_9 : decode cX5_init 9 = .ok (.putfield 7, 3) := by decide +kernel
theorem dX5_init_12 : decode cX5_init 12 = .ok (.aload_n 0, 1) := by decide +kernel
theorem dX5_init_13 : decode cX5_init 13 = .ok (.bipush 6, 2) := by decide +kernel
theorem dX5_init_15 : decode cX5_init 15 = .ok (.newarray .int, 2) := by decide +kernel
theorem dX5_init_17 : decode cX5_init 17 = .ok (.putfield 13, 3) := by decide +kernel
theorem dX5_init_20 : decode cX5_init 20 = .ok (.aload_n 0, 1) := by decide +kernel
theorem dX5_init_21 : decode cX5_init 21 = .ok (.bipush 20, 2) := by decide +kernel
theorem dX5_init_23 : decode cX5_init 23 = .ok (.newarray .int, 2) := by decide +kernel
theorem dX5_init_25 : decode cX5_init 25 = .ok (.putfield 16, 3) := by decide +kernel
theorem dX5_init_28 : decode cX5_init 28 = .ok (.aload_n 0, 1) := by decide +kernel
theorem dX5_init_29 : decode cX5_init 29 = .ok (.bipush 20, 2) := by decide +kernel
theorem dX5_init_31 : decode cX5_init 31 = .ok (.newarray .int, 2) := by decide +kernel
theorem dX5_init_33 : decode cX5_init 33 = .ok (.putfield 19, 3) := by decide +kernel
theorem dX5_init_36 : decode cX5_init 36 = .ok (.aload_n 0, 1) := by decide +kernel
theorem dX5_init_37 : decode cX5_init 37 = .ok (.bipush 20, 2) := by decide +kernel
theorem dX5_init_39 : decode cX5_init 39 = .ok (.newarray .boolean, 2) := by decide +kernel
theorem dX5_init_41 : decode cX5_init 41 = .ok (.putfield 22, 3) := by decide +kernel
theorem dX5_init_44 : decode cX5_init 44 = .ok (.aload_n 0, 1) := by decide +kernel
theorem dX5_init_45 : decode cX5_init 45 = .ok (.bipush 20, 2) := by decide +kernel
theorem dX5_init_47 : decode cX5_init 47 = .ok (.newarray .int, 2) := by decide +kernel
theorem dX5_init_49 : decode cX5_init 49 = .ok (.putfield 26, 3) := by decide +kernel
theorem dX5_init_52 : decode cX5_init 52 = .ok (.aload_n 0, 1) := by decide +kernel
theorem dX5_init_53 : decode cX5_init 53 = .ok (.iconst 1, 1) := by decide +kernel
theorem dX5_init_54 : decode cX5_init 54 = .ok (.putfield 29, 3) := by decide +kernel
theorem dX5_init_57 : decode cX5_init 57 = .ok (.aload_n 0, 1) := by decide +kernel
theorem dX5_init_58 : decode cX5_init 58 = .ok (.bipush 120, 2) := by decide +kernel
theorem dX5_init_60 : decode cX5_init 60 = .ok (.newarray .int, 2) := by decide +kernel
theorem dX5_init_62 : decode cX5_init 62 = .ok (.putfield 33, 3) := by decide +kernel
theorem dX5_init_65 : decode cX5_init 65 = .ok (.aload_n 0, 1) := by decide +kernel
theorem dX5_init_66 : decode cX5_init 66 = .ok (.bipush 120, 2) := by decide +kernel
theorem dX5_init_68 : decode cX5_init 68 = .ok (.newarray .boolean, 2) := by decide +kernel
theorem dX5_init_70 : decode cX5_init 70 = .ok (.putfield 36, 3) := by decide +kernel
theorem dX5_init_73 : decode cX5_init 73 = .ok (.aload_n 0, 1) := by decide +kernel
theorem dX5_init_74 : decode cX5_init 74 = .ok (.bipush 120, 2) := by decide +kernel
theorem dX5_init_76 : decode cX5_init 76 = .ok (.newarray .int, 2) := by decide +kernel
theorem dX5_init_78 : decode cX5_init 78 = .ok (.putfield 39, 3) := by decide +kernel
theorem dX5_init_81 : decode cX5_init 81 = .ok (.aload_n 0, 1) := by decide +kernel
theorem dX5_init_82 : decode cX5_init 82 = .ok (.bipush 120, 2) := by decide +kernel
theorem dX5_init_84 : decode cX5_init 84 = .ok (.newarray .int, 2) := by decide +kernel
theorem dX5_init_86 : decode cX5_init 86 = .ok (.putfield 42, 3) := by decide +kernel
theorem dX5_init_89 : decode cX5_init 89 = .ok (.aload_n 0, 1) := by decide +kernel
theorem dX5_init_90 : decode cX5_init 90 = .ok (.bipush 8, 2) := by decide +kernel
theorem dX5_init_92 : decode cX5_init 92 = .ok (.newarray .int, 2) := by decide +kernel
theorem dX5_init_94 : decode cX5_init 94 = .ok (.putfield 45, 3) := by decide +kernel
theorem dX5_init_97 : decode cX5_init 97 = .ok (.aload_n 0, 1) := by decide +kernel
theorem dX5_init_98 : decode cX5_init 98 = .ok (.bipush 8, 2) := by decide +kernel
theorem dX5_init_100 : decode cX5_init 100 = .ok (.newarray .int, 2) := by decide +kernel
theorem dX5_init_102 : decode cX5_init 102 = .ok (.putfield 48, 3) := by decide +kernel
theorem dX5_init_105 : decode cX5_init 105 = .ok (.aload_n 0, 1) := by decide +kernel
theorem dX5_init_106 : decode cX5_init 106 = .ok (.bipush 20, 2) := by decide +kernel
theorem dX5_init_108 : decode cX5_init 108 = .ok (.newarray .boolean, 2) := by decide +kernel
theorem dX5_init_110 : decode cX5_init 110 = .ok (.putfield 51, 3) := by decide +kernel
theorem dX5_init_113 : decode cX5_init 113 = .ok (.aload_n 0, 1) := by decide +kernel
theorem dX5_init_114 : decode cX5_init 114 = .ok (.sipush 160, 3) := by decide +kernel
theorem dX5_init_117 : decode cX5_init 117 = .ok (.newarray .int, 2) := by decide +kernel
theorem dX5_init_119 : decode cX5_init 119 = .ok (.putfield 54, 3) := by decide +kernel
theorem dX5_init_122 : decode cX5_init 122 = .ok (.aload_n 0, 1) := by decide +kernel
theorem dX5_init_123 : decode cX5_init 123 = .ok (.bipush 20, 2) := by decide +kernel
theorem dX5_init_125 : decode cX5_init 125 = .ok (.newarray .boolean, 2) := by decide +kernel
theorem dX5_init_127 : decode cX5_init 127 = .ok (.putfield 57, 3) := by decide +kernel
theorem dX5_init_130 : decode cX5_init 130 = .ok (.aload_n 0, 1) := by decide +kernel
theorem dX5_init_131 : decode cX5_init 131 = .ok (.getfield 16, 3) := by decide +kernel
theorem dX5_init_134 : decode cX5_init 134 = .ok (.iconst 0, 1) := by decide +kernel
theorem dX5_init_135 : decode cX5_init 135 = .ok (.iconst (-1), 1) := by decide +kernel
theorem dX5_init_136 : decode cX5_init 136 = .ok (.iastore, 1) := by decide +kernel
theorem dX5_init_137 : decode cX5_init 137 = .ok (.aload_n 0, 1) := by decide +kernel
theorem dX5_init_138 : decode cX5_init 138 = .ok (.getfield 22, 3) := by decide +kernel
theorem dX5_init_141 : decode cX5_init 141 = .ok (.iconst 0, 1) := by decide +kernel
theorem dX5_init_142 : decode cX5_init 142 = .ok (.iconst 1, 1) := by decide +kernel
theorem dX5_init_143 : decode cX5_init 143 = .ok (.bastore, 1) := by decide +kernel
theorem dX5_init_144 : decode cX5_init 144 = .ok (.return_, 1) := by decide +kernel
theorem dX5_thrown_0 : decode cX5_thrown 0 = .ok (.aload_n 0, 1) := by decide +kernel
theorem dX5_thrown_1 : decode cX5_thrown 1 = .ok (.getfield 60, 3) := by decide +kernel
theorem dX5_thrown_4 : decode cX5_thrown 4 = .ok (.ireturn, 1) := by decide +kernel
theorem dX5_in_0 : decode cX5_in 0 = .ok (.iload_n 0, 1) := by decide +kernel
theorem dX5_in_1 : decode cX5_in 1 = .ok (.iload_n 1, 1) := by decide +kernel
theorem dX5_in_2 : decode cX5_in 2 = .ok (.if_icmp .lt 12, 3) := by decide +kernel
theorem dX5_in_5 : decode cX5_in 5 = .ok (.iload_n 0, 1) := by decide +kernel
theorem dX5_in_6 : decode cX5_in 6 = .ok (.iload_n 2, 1) := by decide +kernel
theorem dX5_in_7 : decode cX5_in 7 = .ok (.if_icmp .gt 7, 3) := by decide +kernel
theorem dX5_in_10 : decode cX5_in 10 = .ok (.iconst 1, 1) := by decide +kernel
theorem dX5_in_11 : decode cX5_in 11 = .ok (.goto 4, 3) := by decide +kernel
theorem dX5_in_14 : decode cX5_in 14 = .ok (.iconst 0, 1) := by decide +kernel
theorem dX5_in_15 : decode cX5_in 15 = .ok (.ireturn, 1) := by decide +kernel
theorem dX5_isFine_0 : decode cX5_isFine 0 = .ok (.aload_n 0, 1) := by decide +kernel
theorem dX5_isFine_1 : decode cX5_isFine 1 = .ok (.iload_n 1, 1) := by decide +kernel
theorem dX5_isFine_2 : decode cX5_isFine 2 = .ok (.putfield 60, 3) := by decide +kernel
theorem dX5_isFine_5 : decode cX5_isFine 5 = .ok (.iload_n 1, 1) := by decide +kernel
theorem dX5_isFine_6 : decode cX5_isFine 6 = .ok (.ifCond .ne 7, 3) := by decide +kernel
theorem dX5_isFine_9 : decode cX5_isFine 9 = .ok (.iconst 1, 1) := by decide +kernel
theorem dX5_isFine_10 : decode cX5_isFine 10 = .ok (.goto 4, 3) := by decide +kernel
theorem dX5_isFine_13 : decode cX5_isFine 13 = .ok (.iconst 0, 1) := by decide +kernel
theorem dX5_isFine_14 : decode cX5_isFine 14 = .ok (.ireturn, 1) := by decide +kernel
set_option maxRecDepth 20000 in
theorem ggX5_isGroup_X5_in : GoodIn wsX5_isGroup wsX5_in := goodIn_r _ [4] (by decide +kernel) (by decide +kernel)
set_option maxRecDepth 20000 in
theorem gX5_isGroup_X5_in : GoodIn wsX5_isGroup (va_wsS RX5 63 yX5_in wsX5_in) := goodIn_app (goodIn_of _ (by decide +kernel)) ggX5_isGroup_X5_in
theorem dX5_isGroup_0 : decode cX5_isGroup 0 = .ok (.iload_n 0, 1) := by decide +kernel
theorem dX5_isGroup_1 : decode cX5_isGroup 1 = .ok (.iconst 0, 1) := by decide +kernel
theorem dX5_isGroup_2 : decode cX5_isGroup 2 = .ok (.iconst 5, 1) := by decide +kernel
theorem dX5_isGroup_3 : decode cX5_isGroup 3 = .ok (.invokestatic 63, 3) := by decide +kernel
theorem dX5_isGroup_6 : decode cX5_isGroup 6 = .ok (.ireturn, 1) := by decide +kernel
set_option maxRecDepth 20000 in
theorem ggX5_isPerson_X5_in : GoodIn wsX5_isPerson wsX5_in := goodIn_r _ [4] (by decide +kernel) (by decide +kernel)
set_option maxRecDepth 20000 in
theorem gX5_isPerson_X5_in : GoodIn wsX5_isPerson (va_wsS RX5 63 yX5_in wsX5_in) := goodIn_app (goodIn_of _ (by decide +kernel)) ggX5_isPerson_X5_in
theorem dX5_isPerson_0 : decode cX5_isPerson 0 = .ok (.iload_n 0, 1) := by decide +kernel
theorem dX5_isPerson_1 : decode cX5_isPerson 1 = .ok (.iconst 0, 1) := by decide +kernel
theorem dX5_isPerson_2 : decode cX5_isPerson 2 = .ok (.bipush 7, 2) := by decide +kernel
theorem dX5_isPerson_4 : decode cX5_isPerson 4 = .ok (.invokestatic 63, 3) := by decide +kernel
theorem dX5_isPerson_7 : decode cX5_isPerson 7 = .ok (.ireturn, 1) := by decide +kernel
set_option maxRecDepth 20000 in
theorem ggX5_isFolder_X5_in : GoodIn wsX5_isFolder wsX5_in := goodIn_r _ [5] (by decide +kernel) (by decide +kernel)
set_option maxRecDepth 20000 in
theorem gX5_isFolder_X5_in : GoodIn wsX5_isFolder (va_wsS RX5 63 yX5_in wsX5_in) := goodIn_app (goodIn_of _ (by decide +kernel)) ggX5_isFolder_X5_in
theorem dX5_isFolder_0 : decode cX5_isFolder 0 = .ok (.iload_n 1, 1) := by decide +kernel
theorem dX5_isFolder_1 : decode cX5_isFolder 1 = .ok (.iconst 0, 1) := by decide +kernel
theorem dX5_isFolder_2 : decode cX5_isFolder 2 = .ok (.aload_n 0, 1) := by decide +kernel
theorem dX5_isFolder_3 : decode cX5_isFolder 3 = .ok (.getfield 29, 3) := by decide +kernel
theorem dX5_isFolder_6 : decode cX5_isFolder 6 = .ok (.iconst 1, 1) := by decide +kernel
theorem dX5_isFolder_7 : decode cX5_isFolder 7 = .ok (.isub, 1) := by decide +kernel
theorem dX5_isFolder_8 : decode cX5_isFolder 8 = .ok (.invokestatic 63, 3) := by decide +kernel
theorem dX5_isFolder_11 : decode cX5_isFolder 11 = .ok (.ireturn, 1) := by decide +kernel
theorem dX5_has_0 : decode cX5_has 0 = .ok (.iload_n 0, 1) := by decide +kernel
theorem dX5_has_1 : decode cX5_has 1 = .ok (.iload_n 1, 1) := by decide +kernel
theorem dX5_has_2 : decode cX5_has 2 = .ok (.ishr, 1) := by decide +kernel
theorem dX5_has_3 : decode cX5_has 3 = .ok (.iconst 1, 1) := by decide +kernel
theorem dX5_has_4 : decode cX5_has 4 = .ok (.iand, 1) := by decide +kernel
theorem dX5_has_5 : decode cX5_has 5 = .ok (.iconst 1, 1) := by decide +kernel
theorem dX5_has_6 : decode cX5_has 6 = .ok (.if_icmp .ne 7, 3) := by decide +kernel
theorem dX5_has_9 : decode cX5_has 9 = .ok (.iconst 1, 1) := by decide +kernel
theorem dX5_has_10 : decode cX5_has 10 = .ok (.goto 4, 3) := by decide +kernel
theorem dX5_has_13 : decode cX5_has 13 = .ok (.iconst 0, 1) := by decide +kernel
theorem dX5_has_14 : decode cX5_has 14 = .ok (.ireturn, 1) := by decide +kernel
theorem dX5_size_0 : decode cX5_size 0 = .ok (.iconst 0, 1) := by decide +kernel
theorem dX5_size_1 : decode cX5_size 1 = .ok (.istore_n 1, 1) := by decide +kernel
theorem dX5_size_2 : decode cX5_size 2 = .ok (.iconst 0, 1) := by decide +kernel
theorem dX5_size_3 : decode cX5_size 3 = .ok (.istore_n 2, 1) := by decide +kernel
theorem dX5_size_4 : decode cX5_size 4 = .ok (.iload_n 2, 1) := by decide +kernel
theorem dX5_size_5 : decode cX5_size 5 = .ok (.bipush 8, 2) := by decide +kernel
theorem dX5_size_7 : decode cX5_size 7 = .ok (.if_icmp .ge 17, 3) := by decide +kernel
theorem dX5_size_10 : decode cX5_size 10 = .ok (.iload_n 1, 1) := by decide +kernel
theorem dX5_size_11 : decode cX5_size 11 = .ok (.iload_n 0, 1) := by decide +kernel
theorem dX5_size_12 : decode cX5_size 12 = .ok (.iload_n 2, 1) := by decide +kernel
theorem dX5_size_13 : decode cX5_size 13 = .ok (.ishr, 1) := by decide +kernel
theorem dX5_size_14 : decode cX5_size 14 = .ok (.iconst 1, 1) := by decide +kernel
theorem dX5_size_15 : decode cX5_size 15 = .ok (.iand, 1) := by decide +kernel
theorem dX5_size_16 : decode cX5_size 16 = .ok (.iadd, 1) := by decide +kernel
theorem dX5_size_17 : decode cX5_size 17 = .ok (.istore_n 1, 1) := by decide +kernel
theorem dX5_size_18 : decode cX5_size 18 = .ok (.iinc 2 1, 3) := by decide +kernel
theorem dX5_size_21 : decode cX5_size 21 = .ok (.goto (-17), 3) := by decide +kernel
theorem dX5_size_24 : decode cX5_size 24 = .ok (.iload_n 1, 1) := by decide +kernel
theorem dX5_size_25 : decode cX5_size 25 = .ok (.ireturn, 1) := by decide +kernel
set_option maxRecDepth 20000 in
theorem ggX5_groupsIn_X5_has : GoodIn wsX5_groupsIn wsX5_has := goodIn_r _ [5] (by decide +kernel) (by decide +kernel)
set_option maxRecDepth 20000 in
theorem gX5_groupsIn_X5_has : GoodIn wsX5_groupsIn (va_wsS RX5 67 yX5_has wsX5_has) := goodIn_app (goodIn_of _ (by decide +kernel)) ggX5_groupsIn_X5_has
theorem dX5_groupsIn_0 : decode cX5_groupsIn 0 = .ok (.iconst 1, 1) := by decide +kernel
theorem dX5_groupsIn_1 : decode cX5_groupsIn 1 = .ok (.iload_n 1, 1) := by decide +kernel
theorem dX5_groupsIn_2 : decode cX5_groupsIn 2 = .ok (.ishl, 1) := by decide +kernel
theorem dX5_groupsIn_3 : decode cX5_groupsIn 3 = .ok (.istore_n 2, 1) := by decide +kernel
theorem dX5_groupsIn_4 : decode cX5_groupsIn 4 = .ok (.iconst 0, 1) := by decide +kernel
theorem dX5_groupsIn_5 : decode cX5_groupsIn 5 = .ok (.istore_n 3, 1) := by decide +kernel
theorem dX5_groupsIn_6 : decode cX5_groupsIn 6 = .ok (.iload_n 3, 1) := by decide +kernel
theorem dX5_groupsIn_7 : decode cX5_groupsIn 7 = .ok (.bipush 6, 2) := by decide +kernel
theorem dX5_groupsIn_9 : decode cX5_groupsIn 9 = .ok (.if_icmp .ge 48, 3) := by decide +kernel
theorem dX5_groupsIn_12 : decode cX5_groupsIn 12 = .ok (.iconst 0, 1) := by decide +kernel
theorem dX5_groupsIn_13 : decode cX5_groupsIn 13 = .ok (.istore 4, 2) := by decide +kernel
theorem dX5_groupsIn_15 : decode cX5_groupsIn 15 = .ok (.iload 4, 2) := by decide +kernel
theorem dX5_groupsIn_17 : decode cX5_groupsIn 17 = .ok (.bipush 6, 2) := by decide +kernel
theorem dX5_groupsIn_19 : decode cX5_groupsIn 19 = .ok (.if_icmp .ge 32, 3) := by decide +kernel
theorem dX5_groupsIn_22 : decode cX5_groupsIn 22 = .ok (.iload_n 2, 1) := by decide +kernel
theorem dX5_groupsIn_23 : decode cX5_groupsIn 23 = .ok (.iload_n 2, 1) := by decide +kernel
theorem dX5_groupsIn_24 : decode cX5_groupsIn 24 = .ok (.iload 4, 2) := by decide +kernel
theorem dX5_groupsIn_26 : decode cX5_groupsIn 26 = .ok (.invokestatic 67, 3) := by decide +kernel
theorem dX5_groupsIn_29 : decode cX5_groupsIn 29 = .ok (.ifCond .eq 13, 3) := by decide +kernel
theorem dX5_groupsIn_32 : decode cX5_groupsIn 32 = .ok (.aload_n 0, 1) := by decide +kernel
theorem dX5_groupsIn_33 : decode cX5_groupsIn 33 = .ok (.getfield 13, 3) := by decide +kernel
theorem dX5_groupsIn_36 : decode cX5_groupsIn 36 = .ok (.iload 4, 2) := by decide +kernel
theorem dX5_groupsIn_38 : decode cX5_groupsIn 38 = .ok (.iaload, 1) := by decide +kernel
theorem dX5_groupsIn_39 : decode cX5_groupsIn 39 = .ok (.goto 4, 3) := by decide +kernel
theorem dX5_groupsIn_42 : decode cX5_groupsIn 42 = .ok (.iconst 0, 1) := by decide +kernel
theorem dX5_groupsIn_43 : decode cX5_groupsIn 43 = .ok (.ior, 1) := by decide +kernel
theorem dX5_groupsIn_44 : decode cX5_groupsIn 44 = .ok (.istore_n 2, 1) := by decide +kernel
theorem dX5_groupsIn_45 : decode cX5_groupsIn 45 = .ok (.iinc 4 1, 3) := by decide +kernel
theorem dX5_groupsIn_48 : decode cX5_groupsIn 48 = .ok (.goto (-33), 3) := by decide +kernel
theorem dX5_groupsIn_51 : decode cX5_groupsIn 51 = .ok (.iinc 3 1, 3) := by decide +kernel
theorem dX5_groupsIn_54 : decode cX5_groupsIn 54 = .ok (.goto (-48), 3) := by decide +kernel
theorem dX5_groupsIn_57 : decode cX5_groupsIn 57 = .ok (.iload_n 2, 1) := by decide +kernel
theorem dX5_groupsIn_58 : decode cX5_groupsIn 58 = .ok (.ireturn, 1) := by decide +kernel
set_option maxRecDepth 20000 in
theorem ggX5_membersOf_X5_groupsIn : GoodIn wsX5_membersOf wsX5_groupsIn := goodIn_r _ [6, 7, 8, 9, 5, 10, 11, 12, 13, 14, 15, 16, 17, 18, 19, 20, 21, 22, 23, 24, 25, 26, 27, 28, 29, 30] (by decide +kernel) (by decide +kernel)
set_option maxRecDepth 20000 in
theorem gX5_membersOf_X5_groupsIn : GoodIn wsX5_membersOf (wsV RX5 71 RX5 yX5_groupsIn wsX5_groupsIn) := goodIn_app (goodIn_of _ (by decide +kernel)) ggX5_membersOf_X5_groupsIn
set_option maxRecDepth 20000 in
theorem ggX5_membersOf_X5_has : GoodIn wsX5_membersOf wsX5_has := goodIn_r _ [10] (by decide +kernel) (by decide +kernel)
set_option maxRecDepth 20000 in
theorem gX5_membersOf_X5_has : GoodIn wsX5_membersOf (va_wsS RX5 67 yX5_has wsX5_has) := goodIn_app (goodIn_of _ (by decide +kernel)) ggX5_membersOf_X5_has
theorem dX5_membersOf_0 : decode cX5_membersOf 0 = .ok (.aload_n 0, 1) := by decide +kernel
theorem dX5_membersOf_1 : decode cX5_membersOf 1 = .ok (.iload_n 1, 1) := by decide +kernel
theorem dX5_membersOf_2 : decode cX5_membersOf 2 = .ok (.invokevirtual 71, 3) := by decide +kernel
theorem dX5_membersOf_5 : decode cX5_membersOf 5 = .ok (.istore_n 2, 1) := by decide +kernel
theorem dX5_membersOf_6 : decode cX5_membersOf 6 = .ok (.iconst 0, 1) := by decide +kernel
theorem dX5_membersOf_7 : decode cX5_membersOf 7 = .ok (.istore_n 3, 1) := by decide +kernel
theorem dX5_membersOf_8 : decode cX5_membersOf 8 = .ok (.iconst 0, 1) := by decide +kernel
theorem dX5_membersOf_9 : decode cX5_membersOf 9 = .ok (.istore 4, 2) := by decide +kernel
theorem dX5_membersOf_11 : decode cX5_membersOf 11 = .ok (.iload 4, 2) := by decide +kernel
theorem dX5_membersOf_13 : decode cX5_membersOf 13 = .ok (.bipush 6, 2) := by decide +kernel
theorem dX5_membersOf_15 : decode cX5_membersOf 15 = .ok (.if_icmp .ge 32, 3) := by decide +kernel
theorem dX5_membersOf_18 : decode cX5_membersOf 18 = .ok (.iload_n 3, 1) := by decide +kernel
theorem dX5_membersOf_19 : decode cX5_membersOf 19 = .ok (.iload_n 2, 1) := by decide +kernel
theorem dX5_membersOf_20 : decode cX5_membersOf 20 = .ok (.iload 4, 2) := by decide +kernel
theorem dX5_membersOf_22 : decode cX5_membersOf 22 = .ok (.invokestatic 67, 3) := by decide +kernel
theorem dX5_membersOf_25 : decode cX5_membersOf 25 = .ok (.ifCond .eq 13, 3) := by decide +kernel
theorem dX5_membersOf_28 : decode cX5_membersOf 28 = .ok (.aload_n 0, 1) := by decide +kernel
theorem dX5_membersOf_29 : decode cX5_membersOf 29 = .ok (.getfield 7, 3) := by decide +kernel
theorem dX5_membersOf_32 : decode cX5_membersOf 32 = .ok (.iload 4, 2) := by decide +kernel
theorem dX5_membersOf_34 : decode cX5_membersOf 34 = .ok (.iaload, 1) := by decide +kernel
theorem dX5_membersOf_35 : decode cX5_membersOf 35 = .ok (.goto 4, 3) := by decide +kernel
theorem dX5_membersOf_38 : decode cX5_membersOf 38 = .ok (.iconst 0, 1) := by decide +kernel
theorem dX5_membersOf_39 : decode cX5_membersOf 39 = .ok (.ior, 1) := by decide +kernel
theorem dX5_membersOf_40 : decode cX5_membersOf 40 = .ok (.istore_n 3, 1) := by decide +kernel
theorem dX5_membersOf_41 : decode cX5_membersOf 41 = .ok (.iinc 4 1, 3) := by decide +kernel
theorem dX5_membersOf_44 : decode cX5_membersOf 44 = .ok (.goto (-33), 3) := by decide +kernel
theorem dX5_membersOf_47 : decode cX5_membersOf 47 = .ok (.iload_n 3, 1) := by decide +kernel
theorem dX5_membersOf_48 : decode cX5_membersOf 48 = .ok (.ireturn, 1) := by decide +kernel
set_option maxRecDepth 20000 in
theorem ggX5_setMember_X5_isGroup : GoodIn wsX5_setMember wsX5_isGroup := goodIn_r _ [5, 6, 7, 4, 8] (by decide +kernel) (by decide +kernel)
set_option maxRecDepth 20000 in
theorem gX5_setMember_X5_isGroup : GoodIn wsX5_setMember (va_wsS RX5 75 yX5_isGroup wsX5_isGroup) := goodIn_app (goodIn_of _ (by decide +kernel)) ggX5_setMember_X5_isGroup
set_option maxRecDepth 20000 in
theorem ggX5_setMember_X5_isPerson : GoodIn wsX5_setMember wsX5_isPerson := goodIn_r _ [11, 6, 7, 4, 8] (by decide +kernel) (by decide +kernel)
set_option maxRecDepth 20000 in
theorem gX5_setMember_X5_isPerson : GoodIn wsX5_setMember (va_wsS RX5 79 yX5_isPerson wsX5_isPerson) := goodIn_app (goodIn_of _ (by decide +kernel)) ggX5_setMember_X5_isPerson
set_option maxRecDepth 20000 in
theorem ggX5_setMember_X5_isFine : GoodIn wsX5_setMember wsX5_isFine := goodIn_r _ [15, 16, 20, 21, 22, 23, 24, 25, 26, 27, 28, 29, 30, 31, 32, 33, 34, 35, 36, 37, 38, 39] (by decide +kernel) (by decide +kernel)
set_option maxRecDepth 20000 in
theorem gX5_setMember_X5_isFine : GoodIn wsX5_setMember (wsV RX5 82 RX5 yX5_isFine wsX5_isFine) := goodIn_app (goodIn_of _ (by decide +kernel)) ggX5_setMember_X5_isFine
set_option maxRecDepth 20000 in
theorem ggX5_setMember_X5_has : GoodIn wsX5_setMember wsX5_has := goodIn_r _ [19] (by decide +kernel) (by decide +kernel)
set_option maxRecDepth 20000 in
theorem gX5_setMember_X5_has : GoodIn wsX5_setMember (va_wsS RX5 67 yX5_has wsX5_has) := goodIn_app (goodIn_of _ (by decide +kernel)) ggX5_setMember_X5_has
theorem dX5_setMember_0 : decode cX5_setMember 0 = .ok (.aload_n 0, 1) := by decide +kernel
theorem dX5_setMember_1 : decode cX5_setMember 1 = .ok (.iload_n 1, 1) := by decide +kernel
theorem dX5_setMember_2 : decode cX5_setMember 2 = .ok (.invokestatic 75, 3) := by decide +kernel
theorem dX5_setMember_5 : decode cX5_setMember 5 = .ok (.ifCond .eq 14, 3) := by decide +kernel
theorem dX5_setMember_8 : decode cX5_setMember 8 = .ok (.iload_n 2, 1) := by decide +kernel
theorem dX5_setMember_9 : decode cX5_setMember 9 = .ok (.invokestatic 79, 3) := by decide +kernel
theorem dX5_setMember_12 : decode cX5_setMember 12 = .ok (.ifCond .eq 7, 3) := by decide +kernel
theorem dX5_setMember_15 : decode cX5_setMember 15 = .ok (.iconst 0, 1) := by decide +kernel
theorem dX5_setMember_16 : decode cX5_setMember 16 = .ok (.goto 4, 3) := by decide +kernel
theorem dX5_setMember_19 : decode cX5_setMember 19 = .ok (.iconst 1, 1) := by decide +kernel
theorem dX5_setMember_20 : decode cX5_setMember 20 = .ok (.invokevirtual 82, 3) := by decide +kernel
theorem dX5_setMember_23 : decode cX5_setMember 23 = .ok (.ifCond .ne 5, 3) := by decide +kernel
theorem dX5_setMember_26 : decode cX5_setMember 26 = .ok (.iconst 0, 1) := by decide +kernel
theorem dX5_setMember_27 : decode cX5_setMember 27 = .ok (.ireturn, 1) := by decide +kernel
theorem dX5_setMember_28 : decode cX5_setMember 28 = .ok (.aload_n 0, 1) := by decide +kernel
theorem dX5_setMember_29 : decode cX5_setMember 29 = .ok (.getfield 7, 3) := by decide +kernel
theorem dX5_setMember_32 : decode cX5_setMember 32 = .ok (.iload_n 1, 1) := by decide +kernel
theorem dX5_setMember_33 : decode cX5_setMember 33 = .ok (.iaload, 1) := by decide +kernel
theorem dX5_setMember_34 : decode cX5_setMember 34 = .ok (.iload_n 2, 1) := by decide +kernel
theorem dX5_setMember_35 : decode cX5_setMember 35 = .ok (.invokestatic 67, 3) := by decide +kernel
theorem dX5_setMember_38 : decode cX5_setMember 38 = .ok (.istore 4, 2) := by decide +kernel
theorem dX5_setMember_40 : decode cX5_setMember 40 = .ok (.aload_n 0, 1) := by decide +kernel
theorem dX5_setMember_41 : decode cX5_setMember 41 = .ok (.getfield 7, 3) := by decide +kernel
theorem dX5_setMember_44 : decode cX5_setMember 44 = .ok (.iload_n 1, 1) := by decide +kernel
theorem dX5_setMember_45 : decode cX5_setMember 45 = .ok (.iload_n 3, 1) := by decide +kernel
theorem dX5_setMember_46 : decode cX5_setMember 46 = .ok (.ifCond .eq 16, 3) := by decide +kernel
theorem dX5_setMember_49 : decode cX5_setMember 49 = .ok (.aload_n 0, 1) := by decide +kernel
theorem dX5_setMember_50 : decode cX5_setMember 50 = .ok (.getfield 7, 3) := by decide +kernel
theorem dX5_setMember_53 : decode cX5_setMember 53 = .ok (.iload_n 1, 1) := by decide +kernel
theorem dX5_setMember_54 : decode cX5_setMember 54 = .ok (.iaload, 1) := by decide +kernel
theorem dX5_setMember_55 : decode cX5_setMember 55 = .ok (.iconst 1, 1) := by decide +kernel
theorem dX5_setMember_56 : decode cX5_setMember 56 = .ok (.iload_n 2, 1) := by decide +kernel
theorem dX5_setMember_57 : decode cX5_setMember 57 = .ok (.ishl, 1) := by decide +kernel
theorem dX5_setMember_58 : decode cX5_setMember 58 = .ok (.ior, 1) := by decide +kernel
theorem dX5_setMember_59 : decode cX5_setMember 59 = .ok (.goto 15, 3) := by decide +kernel
theorem dX5_setMember_62 : decode cX5_setMember 62 = .ok (.aload_n 0, 1) := by decide +kernel
theorem dX5_setMember_63 : decode cX5_setMember 63 = .ok (.getfield 7, 3) := by decide +kernel
theorem dX5_setMember_66 : decode cX5_setMember 66 = .ok (.iload_n 1, 1) := by decide +kernel
theorem dX5_setMember_67 : decode cX5_setMember 67 = .ok (.iaload, 1) := by decide +kernel
theorem dX5_setMember_68 : decode cX5_setMember 68 = .ok (.iconst 1, 1) := by decide +kernel
theorem dX5_setMember_69 : decode cX5_setMember 69 = .ok (.iload_n 2, 1) := by decide +kernel
theorem dX5_setMember_70 : decode cX5_setMember 70 = .ok (.ishl, 1) := by decide +kernel
theorem dX5_setMember_71 : decode cX5_setMember 71 = .ok (.iconst (-1), 1) := by decide +kernel
theorem dX5_setMember_72 : decode cX5_setMember 72 = .ok (.ixor, 1) := by decide +kernel
theorem dX5_setMember_73 : decode cX5_setMember 73 = .ok (.iand, 1) := by decide +kernel
theorem dX5_setMember_74 : decode cX5_setMember 74 = .ok (.iastore, 1) := by decide +kernel
theorem dX5_setMember_75 : decode cX5_setMember 75 = .ok (.iload 4, 2) := by decide +kernel
theorem dX5_setMember_77 : decode cX5_setMember 77 = .ok (.ireturn, 1) := by decide +kernel
set_option maxRecDepth 20000 in
theorem ggX5_nest_X5_isGroup : GoodIn wsX5_nest wsX5_isGroup := goodIn_r _ [5, 6, 7, 4, 8] (by decide +kernel) (by decide +kernel)
set_option maxRecDepth 20000 in
theorem gX5_nest_X5_isGroup : GoodIn wsX5_nest (va_wsS RX5 75 yX5_isGroup wsX5_isGroup) := goodIn_app (goodIn_of _ (by decide +kernel)) ggX5_nest_X5_isGroup
set_option maxRecDepth 20000 in
theorem ggX5_nest_X5_groupsIn : GoodIn wsX5_nest wsX5_groupsIn := goodIn_r _ [12, 1, 13, 14, 4, 15, 21, 22, 23, 24, 25, 26, 27, 28, 29, 30, 31, 32, 33, 34, 35, 36, 37, 38, 39, 40] (by decide +kernel) (by decide +kernel)
set_option maxRecDepth 20000 in
theorem gX5_nest_X5_groupsIn : GoodIn wsX5_nest (wsV RX5 71 RX5 yX5_groupsIn wsX5_groupsIn) := goodIn_app (goodIn_of _ (by decide +kernel)) ggX5_nest_X5_groupsIn
set_option maxRecDepth 20000 in
theorem ggX5_nest_X5_has : GoodIn wsX5_nest wsX5_has := goodIn_r _ [15] (by decide +kernel) (by decide +kernel)
set_option maxRecDepth 20000 in
theorem gX5_nest_X5_has : GoodIn wsX5_nest (va_wsS RX5 67 yX5_has wsX5_has) := goodIn_app (goodIn_of _ (by decide +kernel)) ggX5_nest_X5_has
set_option maxRecDepth 20000 in
theorem ggX5_nest_X5_isFine : GoodIn wsX5_nest wsX5_isFine := goodIn_r _ [19, 20, 21, 22, 23, 24, 25, 26, 27, 28, 29, 30, 31, 32, 33, 34, 35, 36, 37, 38, 39, 40] (by decide +kernel) (by decide +kernel)
set_option maxRecDepth 20000 in
theorem gX5_nest_X5_isFine : GoodIn wsX5_nest (wsV RX5 82 RX5 yX5_isFine wsX5_isFine) := goodIn_app (goodIn_of _ (by decide +kernel)) ggX5_nest_X5_isFine
theorem dX5_nest_0 : decode cX5_nest 0 = .ok (.iload_n 1, 1) := by decide +kernel
theorem dX5_nest_1 : decode cX5_nest 1 = .ok (.invokestatic 75, 3) := by decide +kernel
theorem dX5_nest_4 : decode cX5_nest 4 = .ok (.ifCond .eq 10, 3) := by decide +kernel
theorem dX5_nest_7 : decode cX5_nest 7 = .ok (.iload_n 2, 1) := by decide +kernel
theorem dX5_nest_8 : decode cX5_nest 8 = .ok (.invokestatic 75, 3) := by decide +kernel
theorem dX5_nest_11 : decode cX5_nest 11 = .ok (.ifCond .ne 7, 3) := by decide +kernel
theorem dX5_nest_14 : decode cX5_nest 14 = .ok (.iconst 1, 1) := by decide +kernel
theorem dX5_nest_15 : decode cX5_nest 15 = .ok (.goto 20, 3) := by decide +kernel
theorem dX5_nest_18 : decode cX5_nest 18 = .ok (.aload_n 0, 1) := by decide +kernel
theorem dX5_nest_19 : decode cX5_nest 19 = .ok (.iload_n 2, 1) := by decide +kernel
theorem dX5_nest_20 : decode cX5_nest 20 = .ok (.invokevirtual 71, 3) := by decide +kernel
theorem dX5_nest_23 : decode cX5_nest 23 = .ok (.iload_n 1, 1) := by decide +kernel
theorem dX5_nest_24 : decode cX5_nest 24 = .ok (.invokestatic 67, 3) := by decide +kernel
theorem dX5_nest_27 : decode cX5_nest 27 = .ok (.ifCond .eq 7, 3) := by decide +kernel
theorem dX5_nest_30 : decode cX5_nest 30 = .ok (.iconst 2, 1) := by decide +kernel
theorem dX5_nest_31 : decode cX5_nest 31 = .ok (.goto 4, 3) := by decide +kernel
theorem dX5_nest_34 : decode cX5_nest 34 = .ok (.iconst 0, 1) := by decide +kernel
theorem dX5_nest_35 : decode cX5_nest 35 = .ok (.istore_n 3, 1) := by decide +kernel
theorem dX5_nest_36 : decode cX5_nest 36 = .ok (.aload_n 0, 1) := by decide +kernel
theorem dX5_nest_37 : decode cX5_nest 37 = .ok (.iload_n 3, 1) := by decide +kernel
theorem dX5_nest_38 : decode cX5_nest 38 = .ok (.invokevirtual 82, 3) := by decide +kernel
theorem dX5_nest_41 : decode cX5_nest 41 = .ok (.ifCond .ne 5, 3) := by decide +kernel
theorem dX5_nest_44 : decode cX5_nest 44 = .ok (.iconst 0, 1) := by decide +kernel
theorem dX5_nest_45 : decode cX5_nest 45 = .ok (.ireturn, 1) := by decide +kernel
theorem dX5_nest_46 : decode cX5_nest 46 = .ok (.aload_n 0, 1) := by decide +kernel
theorem dX5_nest_47 : decode cX5_nest 47 = .ok (.getfield 13, 3) := by decide +kernel
theorem dX5_nest_50 : decode cX5_nest 50 = .ok (.iload_n 1, 1) := by decide +kernel
theorem dX5_nest_51 : decode cX5_nest 51 = .ok (.dup2, 1) := by decide +kernel
theorem dX5_nest_52 : decode cX5_nest 52 = .ok (.iaload, 1) := by decide +kernel
theorem dX5_nest_53 : decode cX5_nest 53 = .ok (.iconst 1, 1) := by decide +kernel
theorem dX5_nest_54 : decode cX5_nest 54 = .ok (.iload_n 2, 1) := by decide +kernel
theorem dX5_nest_55 : decode cX5_nest 55 = .ok (.ishl, 1) := by decide +kernel
theorem dX5_nest_56 : decode cX5_nest 56 = .ok (.ixor, 1) := by decide +kernel
theorem dX5_nest_57 : decode cX5_nest 57 = .ok (.iastore, 1) := by decide +kernel
theorem dX5_nest_58 : decode cX5_nest 58 = .ok (.aload_n 0, 1) := by decide +kernel
theorem dX5_nest_59 : decode cX5_nest 59 = .ok (.getfield 13, 3) := by decide +kernel
theorem dX5_nest_62 : decode cX5_nest 62 = .ok (.iload_n 1, 1) := by decide +kernel
theorem dX5_nest_63 : decode cX5_nest 63 = .ok (.iaload, 1) := by decide +kernel
theorem dX5_nest_64 : decode cX5_nest 64 = .ok (.iload_n 2, 1) := by decide +kernel
theorem dX5_nest_65 : decode cX5_nest 65 = .ok (.invokestatic 67, 3) := by decide +kernel
theorem dX5_nest_68 : decode cX5_nest 68 = .ok (.ireturn, 1) := by decide +kernel
set_option maxRecDepth 20000 in
theorem ggX5_members_X5_isGroup : GoodIn wsX5_members wsX5_isGroup := goodIn_r _ [4, 5, 6, 3, 7] (by decide +kernel) (by decide +kernel)
set_option maxRecDepth 20000 in
theorem gX5_members_X5_isGroup : GoodIn wsX5_members (va_wsS RX5 75 yX5_isGroup wsX5_isGroup) := goodIn_app (goodIn_of _ (by decide +kernel)) ggX5_members_X5_isGroup
set_option maxRecDepth 20000 in
theorem ggX5_members_X5_isFine : GoodIn wsX5_members wsX5_isFine := goodIn_r _ [11, 12, 26, 27, 28, 29, 30, 31, 32, 33, 34, 35, 36, 37, 38, 39, 40, 41, 42, 43, 44, 45] (by decide +kernel) (by decide +kernel)
set_option maxRecDepth 20000 in
theorem gX5_members_X5_isFine : GoodIn wsX5_members (wsV RX5 82 RX5 yX5_isFine wsX5_isFine) := goodIn_app (goodIn_of _ (by decide +kernel)) ggX5_members_X5_isFine
set_option maxRecDepth 20000 in
theorem ggX5_members_X5_membersOf : GoodIn wsX5_members wsX5_membersOf := goodIn_r _ [16, 17, 18, 19, 20, 3, 21, 22, 23, 24, 25, 26, 27, 28, 29, 30, 31, 32, 33, 34, 35, 36, 37, 38, 39, 40, 41, 42, 43, 44, 45] (by decide +kernel) (by decide +kernel)
set_option maxRecDepth 20000 in
theorem gX5_members_X5_membersOf : GoodIn wsX5_members (wsV RX5 85 RX5 yX5_membersOf wsX5_membersOf) := goodIn_app (goodIn_of _ (by decide +kernel)) ggX5_members_X5_membersOf
theorem dX5_members_0 : decode cX5_members 0 = .ok (.aload_n 0, 1) := by decide +kernel
theorem dX5_members_1 : decode cX5_members 1 = .ok (.iload_n 1, 1) := by decide +kernel
theorem dX5_members_2 : decode cX5_members 2 = .ok (.invokestatic 75, 3) := by decide +kernel
theorem dX5_members_5 : decode cX5_members 5 = .ok (.ifCond .eq 7, 3) := by decide +kernel
theorem dX5_members_8 : decode cX5_members 8 = .ok (.iconst 0, 1) := by decide +kernel
theorem dX5_members_9 : decode cX5_members 9 = .ok (.goto 4, 3) := by decide +kernel
theorem dX5_members_12 : decode cX5_members 12 = .ok (.iconst 1, 1) := by decide +kernel
theorem dX5_members_13 : decode cX5_members 13 = .ok (.invokevirtual 82, 3) := by decide +kernel
theorem dX5_members_16 : decode cX5_members 16 = .ok (.ifCond .eq 11, 3) := by decide +kernel
theorem dX5_members_19 : decode cX5_members 19 = .ok (.aload_n 0, 1) := by decide +kernel
theorem dX5_members_20 : decode cX5_members 20 = .ok (.iload_n 1, 1) := by decide +kernel
theorem dX5_members_21 : decode cX5_members 21 = .ok (.invokevirtual 85, 3) := by decide +kernel
theorem dX5_members_24 : decode cX5_members 24 = .ok (.goto 4, 3) := by decide +kernel
theorem dX5_members_27 : decode cX5_members 27 = .ok (.iconst 0, 1) := by decide +kernel
theorem dX5_members_28 : decode cX5_members 28 = .ok (.ireturn, 1) := by decide +kernel
set_option maxRecDepth 20000 in
theorem ggX5_addFolder_X5_isFolder : GoodIn wsX5_addFolder wsX5_isFolder := goodIn_r _ [9, 1, 10, 11, 8, 12, 21, 22, 23, 24, 25, 26, 27, 28, 29, 30, 31, 32, 33, 34, 35, 36, 37, 38, 39, 40] (by decide +kernel) (by decide +kernel)
set_option maxRecDepth 20000 in
theorem gX5_addFolder_X5_isFolder : GoodIn wsX5_addFolder (wsV RX5 88 RX5 yX5_isFolder wsX5_isFolder) := goodIn_app (goodIn_of _ (by decide +kernel)) ggX5_addFolder_X5_isFolder
set_option maxRecDepth 20000 in
theorem ggX5_addFolder_X5_isPerson : GoodIn wsX5_addFolder wsX5_isPerson := goodIn_r _ [15, 10, 11, 8, 12] (by decide +kernel) (by decide +kernel)
set_option maxRecDepth 20000 in
theorem gX5_addFolder_X5_isPerson : GoodIn wsX5_addFolder (va_wsS RX5 79 yX5_isPerson wsX5_isPerson) := goodIn_app (goodIn_of _ (by decide +kernel)) ggX5_addFolder_X5_isPerson
set_option maxRecDepth 20000 in
theorem ggX5_addFolder_X5_isFine : GoodIn wsX5_addFolder wsX5_isFine := goodIn_r _ [19, 20, 21, 22, 23, 24, 25, 26, 27, 28, 29, 30, 31, 32, 33, 34, 35, 36, 37, 38, 39, 40] (by decide +kernel) (by decide +kernel)
set_option maxRecDepth 20000 in
theorem gX5_addFolder_X5_isFine : GoodIn wsX5_addFolder (wsV RX5 82 RX5 yX5_isFine wsX5_isFine) := goodIn_app (goodIn_of _ (by decide +kernel)) ggX5_addFolder_X5_isFine
theorem dX5_addFolder_0 : decode cX5_addFolder 0 = .ok (.aload_n 0, 1) := by decide +kernel
theorem dX5_addFolder_1 : decode cX5_addFolder 1 = .ok (.aload_n 0, 1) := by decide +kernel
theorem dX5_addFolder_2 : decode cX5_addFolder 2 = .ok (.iload_n 1, 1) := by decide +kernel
theorem dX5_addFolder_3 : decode cX5_addFolder 3 = .ok (.invokevirtual 88, 3) := by decide +kernel
theorem dX5_addFolder_6 : decode cX5_addFolder 6 = .ok (.ifCond .eq 10, 3) := by decide +kernel
theorem dX5_addFolder_9 : decode cX5_addFolder 9 = .ok (.iload_n 2, 1) := by decide +kernel
theorem dX5_addFolder_10 : decode cX5_addFolder 10 = .ok (.invokestatic 79, 3) := by decide +kernel
theorem dX5_addFolder_13 : decode cX5_addFolder 13 = .ok (.ifCond .ne 7, 3) := by decide +kernel
theorem dX5_addFolder_16 : decode cX5_addFolder 16 = .ok (.iconst 1, 1) := by decide +kernel
theorem dX5_addFolder_17 : decode cX5_addFolder 17 = .ok (.goto 17, 3) := by decide +kernel
theorem dX5_addFolder_20 : decode cX5_addFolder 20 = .ok (.aload_n 0, 1) := by decide +kernel
theorem dX5_addFolder_21 : decode cX5_addFolder 21 = .ok (.getfield 29, 3) := by decide +kernel
theorem dX5_addFolder_24 : decode cX5_addFolder 24 = .ok (.bipush 20, 2) := by decide +kernel
theorem dX5_addFolder_26 : decode cX5_addFolder 26 = .ok (.if_icmp .ne 7, 3) := by decide +kernel
theorem dX5_addFolder_29 : decode cX5_addFolder 29 = .ok (.iconst 2, 1) := by decide +kernel
theorem dX5_addFolder_30 : decode cX5_addFolder 30 = .ok (.goto 4, 3) := by decide +kernel
theorem dX5_addFolder_33 : decode cX5_addFolder 33 = .ok (.iconst 0, 1) := by decide +kernel
theorem dX5_addFolder_34 : decode cX5_addFolder 34 = .ok (.invokevirtual 82, 3) := by decide +kernel
theorem dX5_addFolder_37 : decode cX5_addFolder 37 = .ok (.ifCond .ne 5, 3) := by decide +kernel
theorem dX5_addFolder_40 : decode cX5_addFolder 40 = .ok (.iconst 0, 1) := by decide +kernel
theorem dX5_addFolder_41 : decode cX5_addFolder 41 = .ok (.ireturn, 1) := by decide +kernel
theorem dX5_addFolder_42 : decode cX5_addFolder 42 = .ok (.aload_n 0, 1) := by decide +kernel
theorem dX5_addFolder_43 : decode cX5_addFolder 43 = .ok (.getfield 16, 3) := by decide +kernel
theorem dX5_addFolder_46 : decode cX5_addFolder 46 = .ok (.aload_n 0, 1) := by decide +kernel
theorem dX5_addFolder_47 : decode cX5_addFolder 47 = .ok (.getfield 29, 3) := by decide +kernel
theorem dX5_addFolder_50 : decode cX5_addFolder 50 = .ok (.iload_n 1, 1) := by decide +kernel
theorem dX5_addFolder_51 : decode cX5_addFolder 51 = .ok (.iastore, 1) := by decide +kernel
theorem dX5_addFolder_52 : decode cX5_addFolder 52 = .ok (.aload_n 0, 1) := by decide +kernel
theorem dX5_addFolder_53 : decode cX5_addFolder 53 = .ok (.getfield 19, 3) := by decide +kernel
theorem dX5_addFolder_56 : decode cX5_addFolder 56 = .ok (.aload_n 0, 1) := by decide +kernel
theorem dX5_addFolder_57 : decode cX5_addFolder 57 = .ok (.getfield 29, 3) := by decide +kernel
theorem dX5_addFolder_60 : decode cX5_addFolder 60 = .ok (.iload_n 2, 1) := by decide +kernel
theorem dX5_addFolder_61 : decode cX5_addFolder 61 = .ok (.iastore, 1) := by decide +kernel
theorem dX5_addFolder_62 : decode cX5_addFolder 62 = .ok (.aload_n 0, 1) := by decide +kernel
theorem dX5_addFolder_63 : decode cX5_addFolder 63 = .ok (.getfield 22, 3) := by decide +kernel
theorem dX5_addFolder_66 : decode cX5_addFolder 66 = .ok (.aload_n 0, 1) := by decide +kernel
theorem dX5_addFolder_67 : decode cX5_addFolder 67 = .ok (.getfield 29, 3) := by decide +kernel
theorem dX5_addFolder_70 : decode cX5_addFolder 70 = .ok (.iconst 1, 1) := by decide +kernel
theorem dX5_addFolder_71 : decode cX5_addFolder 71 = .ok (.bastore, 1) := by decide +kernel
theorem dX5_addFolder_72 : decode cX5_addFolder 72 = .ok (.aload_n 0, 1) := by decide +kernel
theorem dX5_addFolder_73 : decode cX5_addFolder 73 = .ok (.dup, 1) := by decide +kernel
theorem dX5_addFolder_74 : decode cX5_addFolder 74 = .ok (.getfield 29, 3) := by decide +kernel
theorem dX5_addFolder_77 : decode cX5_addFolder 77 = .ok (.iconst 1, 1) := by decide +kernel
theorem dX5_addFolder_78 : decode cX5_addFolder 78 = .ok (.iadd, 1) := by decide +kernel
theorem dX5_addFolder_79 : decode cX5_addFolder 79 = .ok (.putfield 29, 3) := by decide +kernel
theorem dX5_addFolder_82 : decode cX5_addFolder 82 = .ok (.aload_n 0, 1) := by decide +kernel
theorem dX5_addFolder_83 : decode cX5_addFolder 83 = .ok (.getfield 29, 3) := by decide +kernel
theorem dX5_addFolder_86 : decode cX5_addFolder 86 = .ok (.iconst 1, 1) := by decide +kernel
theorem dX5_addFolder_87 : decode cX5_addFolder 87 = .ok (.isub, 1) := by decide +kernel
theorem dX5_addFolder_88 : decode cX5_addFolder 88 = .ok (.ireturn, 1) := by decide +kernel
set_option maxRecDepth 20000 in
theorem ggX5_setOwner_X5_isFolder : GoodIn wsX5_setOwner wsX5_isFolder := goodIn_r _ [6, 7, 8, 9, 5, 10, 19, 20, 21, 22, 23, 24, 25, 26, 27, 28, 29, 30, 31, 32, 33, 34, 35, 36, 37, 38] (by decide +kernel) (by decide +kernel)
set_option maxRecDepth 20000 in
theorem gX5_setOwner_X5_isFolder : GoodIn wsX5_setOwner (wsV RX5 88 RX5 yX5_isFolder wsX5_isFolder) := goodIn_app (goodIn_of _ (by decide +kernel)) ggX5_setOwner_X5_isFolder
set_option maxRecDepth 20000 in
theorem ggX5_setOwner_X5_isPerson : GoodIn wsX5_setOwner wsX5_isPerson := goodIn_r _ [13, 8, 9, 5, 10] (by decide +kernel) (by decide +kernel)
set_option maxRecDepth 20000 in
theorem gX5_setOwner_X5_isPerson : GoodIn wsX5_setOwner (va_wsS RX5 79 yX5_isPerson wsX5_isPerson) := goodIn_app (goodIn_of _ (by decide +kernel)) ggX5_setOwner_X5_isPerson
set_option maxRecDepth 20000 in
theorem ggX5_setOwner_X5_isFine : GoodIn wsX5_setOwner wsX5_isFine := goodIn_r _ [17, 18, 19, 20, 21, 22, 23, 24, 25, 26, 27, 28, 29, 30, 31, 32, 33, 34, 35, 36, 37, 38] (by decide +kernel) (by decide +kernel)
set_option maxRecDepth 20000 in
theorem gX5_setOwner_X5_isFine : GoodIn wsX5_setOwner (wsV RX5 82 RX5 yX5_isFine wsX5_isFine) := goodIn_app (goodIn_of _ (by decide +kernel)) ggX5_setOwner_X5_isFine
theorem dX5_setOwner_0 : decode cX5_setOwner 0 = .ok (.aload_n 0, 1) := by decide +kernel
theorem dX5_setOwner_1 : decode cX5_setOwner 1 = .ok (.aload_n 0, 1) := by decide +kernel
theorem dX5_setOwner_2 : decode cX5_setOwner 2 = .ok (.iload_n 1, 1) := by decide +kernel
theorem dX5_setOwner_3 : decode cX5_setOwner 3 = .ok (.invokevirtual 88, 3) := by decide +kernel
theorem dX5_setOwner_6 : decode cX5_setOwner 6 = .ok (.ifCond .eq 14, 3) := by decide +kernel
theorem dX5_setOwner_9 : decode cX5_setOwner 9 = .ok (.iload_n 2, 1) := by decide +kernel
theorem dX5_setOwner_10 : decode cX5_setOwner 10 = .ok (.invokestatic 79, 3) := by decide +kernel
theorem dX5_setOwner_13 : decode cX5_setOwner 13 = .ok (.ifCond .eq 7, 3) := by decide +kernel
theorem dX5_setOwner_16 : decode cX5_setOwner 16 = .ok (.iconst 0, 1) := by decide +kernel
theorem dX5_setOwner_17 : decode cX5_setOwner 17 = .ok (.goto 4, 3) := by decide +kernel
theorem dX5_setOwner_20 : decode cX5_setOwner 20 = .ok (.iconst 1, 1) := by decide +kernel
theorem dX5_setOwner_21 : decode cX5_setOwner 21 = .ok (.invokevirtual 82, 3) := by decide +kernel
theorem dX5_setOwner_24 : decode cX5_setOwner 24 = .ok (.ifCond .ne 5, 3) := by decide +kernel
theorem dX5_setOwner_27 : decode cX5_setOwner 27 = .ok (.iconst 0, 1) := by decide +kernel
theorem dX5_setOwner_28 : decode cX5_setOwner 28 = .ok (.ireturn, 1) := by decide +kernel
theorem dX5_setOwner_29 : decode cX5_setOwner 29 = .ok (.aload_n 0, 1) := by decide +kernel
theorem dX5_setOwner_30 : decode cX5_setOwner 30 = .ok (.getfield 19, 3) := by decide +kernel
theorem dX5_setOwner_33 : decode cX5_setOwner 33 = .ok (.iload_n 1, 1) := by decide +kernel
theorem dX5_setOwner_34 : decode cX5_setOwner 34 = .ok (.iaload, 1) := by decide +kernel
theorem dX5_setOwner_35 : decode cX5_setOwner 35 = .ok (.istore_n 3, 1) := by decide +kernel
theorem dX5_setOwner_36 : decode cX5_setOwner 36 = .ok (.aload_n 0, 1) := by decide +kernel
theorem dX5_setOwner_37 : decode cX5_setOwner 37 = .ok (.getfield 19, 3) := by decide +kernel
theorem dX5_setOwner_40 : decode cX5_setOwner 40 = .ok (.iload_n 1, 1) := by decide +kernel
theorem dX5_setOwner_41 : decode cX5_setOwner 41 = .ok (.iload_n 2, 1) := by decide +kernel
theorem dX5_setOwner_42 : decode cX5_setOwner 42 = .ok (.iastore, 1) := by decide +kernel
theorem dX5_setOwner_43 : decode cX5_setOwner 43 = .ok (.iload_n 3, 1) := by decide +kernel
theorem dX5_setOwner_44 : decode cX5_setOwner 44 = .ok (.ireturn, 1) := by decide +kernel
set_option maxRecDepth 20000 in
theorem ggX5_setInherits_X5_isFolder : GoodIn wsX5_setInherits wsX5_isFolder := goodIn_r _ [6, 7, 8, 9, 5, 10, 16, 17, 18, 19, 20, 21, 22, 23, 24, 25, 26, 27, 28, 29, 30, 31, 32, 33, 34, 35] (by decide +kernel) (by decide +kernel)
set_option maxRecDepth 20000 in
theorem gX5_setInherits_X5_isFolder : GoodIn wsX5_setInherits (wsV RX5 88 RX5 yX5_isFolder wsX5_isFolder) := goodIn_app (goodIn_of _ (by decide +kernel)) ggX5_setInherits_X5_isFolder
set_option maxRecDepth 20000 in
theorem ggX5_setInherits_X5_isFine : GoodIn wsX5_setInherits wsX5_isFine := goodIn_r _ [14, 15, 16, 17, 18, 19, 20, 21, 22, 23, 24, 25, 26, 27, 28, 29, 30, 31, 32, 33, 34, 35] (by decide +kernel) (by decide +kernel)
set_option maxRecDepth 20000 in
theorem gX5_setInherits_X5_isFine : GoodIn wsX5_setInherits (wsV RX5 82 RX5 yX5_isFine wsX5_isFine) := goodIn_app (goodIn_of _ (by decide +kernel)) ggX5_setInherits_X5_isFine
theorem dX5_setInherits_0 : decode cX5_setInherits 0 = .ok (.aload_n 0, 1) := by decide +kernel
theorem dX5_setInherits_1 : decode cX5_setInherits 1 = .ok (.aload_n 0, 1) := by decide +kernel
theorem dX5_setInherits_2 : decode cX5_setInherits 2 = .ok (.iload_n 1, 1) := by decide +kernel
theorem dX5_setInherits_3 : decode cX5_setInherits 3 = .ok (.invokevirtual 88, 3) := by decide +kernel
theorem dX5_setInherits_6 : decode cX5_setInherits 6 = .ok (.ifCond .eq 7, 3) := by decide +kernel
theorem dX5_setInherits_9 : decode cX5_setInherits 9 = .ok (.iconst 0, 1) := by decide +kernel
theorem dX5_setInherits_10 : decode cX5_setInherits 10 = .ok (.goto 4, 3) := by decide +kernel
theorem dX5_setInherits_13 : decode cX5_setInherits 13 = .ok (.iconst 1, 1) := by decide +kernel
theorem dX5_setInherits_14 : decode cX5_setInherits 14 = .ok (.invokevirtual 82, 3) := by decide +kernel
theorem dX5_setInherits_17 : decode cX5_setInherits 17 = .ok (.ifCond .ne 5, 3) := by decide +kernel
theorem dX5_setInherits_20 : decode cX5_setInherits 20 = .ok (.iconst 0, 1) := by decide +kernel
theorem dX5_setInherits_21 : decode cX5_setInherits 21 = .ok (.ireturn, 1) := by decide +kernel
theorem dX5_setInherits_22 : decode cX5_setInherits 22 = .ok (.aload_n 0, 1) := by decide +kernel
theorem dX5_setInherits_23 : decode cX5_setInherits 23 = .ok (.getfield 22, 3) := by decide +kernel
theorem dX5_setInherits_26 : decode cX5_setInherits 26 = .ok (.iload_n 1, 1) := by decide +kernel
theorem dX5_setInherits_27 : decode cX5_setInherits 27 = .ok (.baload, 1) := by decide +kernel
theorem dX5_setInherits_28 : decode cX5_setInherits 28 = .ok (.istore_n 3, 1) := by decide +kernel
theorem dX5_setInherits_29 : decode cX5_setInherits 29 = .ok (.aload_n 0, 1) := by decide +kernel
theorem dX5_setInherits_30 : decode cX5_setInherits 30 = .ok (.getfield 22, 3) := by decide +kernel
theorem dX5_setInherits_33 : decode cX5_setInherits 33 = .ok (.iload_n 1, 1) := by decide +kernel
theorem dX5_setInherits_34 : decode cX5_setInherits 34 = .ok (.iload_n 2, 1) := by decide +kernel
theorem dX5_setInherits_35 : decode cX5_setInherits 35 = .ok (.bastore, 1) := by decide +kernel
theorem dX5_setInherits_36 : decode cX5_setInherits 36 = .ok (.iload_n 3, 1) := by decide +kernel
theorem dX5_setInherits_37 : decode cX5_setInherits 37 = .ok (.ireturn, 1) := by decide +kernel
set_option maxRecDepth 20000 in
theorem ggX5_allow_X5_isFolder : GoodIn wsX5_allow wsX5_isFolder := goodIn_r _ [10, 11, 12, 13, 9, 14, 20, 21, 22, 23, 24, 25, 26, 27, 28, 29, 30, 31, 32, 33, 34, 35, 36, 37, 38, 39] (by decide +kernel) (by decide +kernel)
set_option maxRecDepth 20000 in
theorem gX5_allow_X5_isFolder : GoodIn wsX5_allow (wsV RX5 88 RX5 yX5_isFolder wsX5_isFolder) := goodIn_app (goodIn_of _ (by decide +kernel)) ggX5_allow_X5_isFolder
set_option maxRecDepth 20000 in
theorem ggX5_allow_X5_in : GoodIn wsX5_allow wsX5_in := goodIn_r _ [14] (by decide +kernel) (by decide +kernel)
set_option maxRecDepth 20000 in
theorem gX5_allow_X5_in : GoodIn wsX5_allow (va_wsS RX5 63 yX5_in wsX5_in) := goodIn_app (goodIn_of _ (by decide +kernel)) ggX5_allow_X5_in
set_option maxRecDepth 20000 in
theorem ggX5_allow_X5_isFine : GoodIn wsX5_allow wsX5_isFine := goodIn_r _ [18, 19, 20, 21, 22, 23, 24, 25, 26, 27, 28, 29, 30, 31, 32, 33, 34, 35, 36, 37, 38, 39] (by decide +kernel) (by decide +kernel)
set_option maxRecDepth 20000 in
theorem gX5_allow_X5_isFine : GoodIn wsX5_allow (wsV RX5 82 RX5 yX5_isFine wsX5_isFine) := goodIn_app (goodIn_of _ (by decide +kernel)) ggX5_allow_X5_isFine
theorem dX5_allow_0 : decode cX5_allow 0 = .ok (.aload_n 0, 1) := by decide +kernel
theorem dX5_allow_1 : decode cX5_allow 1 = .ok (.iload_n 1, 1) := by decide +kernel
theorem dX5_allow_2 : decode cX5_allow 2 = .ok (.invokevirtual 88, 3) := by decide +kernel
theorem dX5_allow_5 : decode cX5_allow 5 = .ok (.ifCond .eq 13, 3) := by decide +kernel
theorem dX5_allow_8 : decode cX5_allow 8 = .ok (.iload_n 2, 1) := by decide +kernel
theorem dX5_allow_9 : decode cX5_allow 9 = .ok (.iconst 0, 1) := by decide +kernel
theorem dX5_allow_10 : decode cX5_allow 10 = .ok (.bipush 13, 2) := by decide +kernel
theorem dX5_allow_12 : decode cX5_allow 12 = .ok (.invokestatic 63, 3) := by decide +kernel
theorem dX5_allow_15 : decode cX5_allow 15 = .ok (.ifCond .ne 7, 3) := by decide +kernel
theorem dX5_allow_18 : decode cX5_allow 18 = .ok (.iconst 1, 1) := by decide +kernel
theorem dX5_allow_19 : decode cX5_allow 19 = .ok (.goto 29, 3) := by decide +kernel
theorem dX5_allow_22 : decode cX5_allow 22 = .ok (.iload 4, 2) := by decide +kernel
theorem dX5_allow_24 : decode cX5_allow 24 = .ok (.iconst 1, 1) := by decide +kernel
theorem dX5_allow_25 : decode cX5_allow 25 = .ok (.bipush 7, 2) := by decide +kernel
theorem dX5_allow_27 : decode cX5_allow 27 = .ok (.invokestatic 63, 3) := by decide +kernel
theorem dX5_allow_30 : decode cX5_allow 30 = .ok (.ifCond .eq 13, 3) := by decide +kernel
theorem dX5_allow_33 : decode cX5_allow 33 = .ok (.iload 5, 2) := by decide +kernel
theorem dX5_allow_35 : decode cX5_allow 35 = .ok (.iconst 0, 1) := by decide +kernel
theorem dX5_allow_36 : decode cX5_allow 36 = .ok (.iconst 2, 1) := by decide +kernel
theorem dX5_allow_37 : decode cX5_allow 37 = .ok (.invokestatic 63, 3) := by decide +kernel
theorem dX5_allow_40 : decode cX5_allow 40 = .ok (.ifCond .ne 7, 3) := by decide +kernel
theorem dX5_allow_43 : decode cX5_allow 43 = .ok (.iconst 2, 1) := by decide +kernel
theorem dX5_allow_44 : decode cX5_allow 44 = .ok (.goto 4, 3) := by decide +kernel
theorem dX5_allow_47 : decode cX5_allow 47 = .ok (.iconst 0, 1) := by decide +kernel
theorem dX5_allow_48 : decode cX5_allow 48 = .ok (.istore 6, 2) := by decide +kernel
theorem dX5_allow_50 : decode cX5_allow 50 = .ok (.aload_n 0, 1) := by decide +kernel
theorem dX5_allow_51 : decode cX5_allow 51 = .ok (.iload 6, 2) := by decide +kernel
theorem dX5_allow_53 : decode cX5_allow 53 = .ok (.ifCond .ne 18, 3) := by decide +kernel
theorem dX5_allow_56 : decode cX5_allow 56 = .ok (.aload_n 0, 1) := by decide +kernel
theorem dX5_allow_57 : decode cX5_allow 57 = .ok (.getfield 26, 3) := by decide +kernel
theorem dX5_allow_60 : decode cX5_allow 60 = .ok (.iload_n 1, 1) := by decide +kernel
theorem dX5_allow_61 : decode cX5_allow 61 = .ok (.iaload, 1) := by decide +kernel
theorem dX5_allow_62 : decode cX5_allow 62 = .ok (.bipush 6, 2) := by decide +kernel
theorem dX5_allow_64 : decode cX5_allow 64 = .ok (.if_icmp .ne 7, 3) := by decide +kernel
theorem dX5_allow_67 : decode cX5_allow 67 = .ok (.iconst 3, 1) := by decide +kernel
theorem dX5_allow_68 : decode cX5_allow 68 = .ok (.goto 5, 3) := by decide +kernel
theorem dX5_allow_71 : decode cX5_allow 71 = .ok (.iload 6, 2) := by decide +kernel
theorem dX5_allow_73 : decode cX5_allow 73 = .ok (.invokevirtual 82, 3) := by decide +kernel
theorem dX5_allow_76 : decode cX5_allow 76 = .ok (.ifCond .ne 5, 3) := by decide +kernel
theorem dX5_allow_79 : decode cX5_allow 79 = .ok (.iconst 0, 1) := by decide +kernel
theorem dX5_allow_80 : decode cX5_allow 80 = .ok (.ireturn, 1) := by decide +kernel
theorem dX5_allow_81 : decode cX5_allow 81 = .ok (.bipush 6, 2) := by decide +kernel
theorem dX5_allow_83 : decode cX5_allow 83 = .ok (.iload_n 1, 1) := by decide +kernel
theorem dX5_allow_84 : decode cX5_allow 84 = .ok (.imul, 1) := by decide +kernel
theorem dX5_allow_85 : decode cX5_allow 85 = .ok (.aload_n 0, 1) := by decide +kernel
theorem dX5_allow_86 : decode cX5_allow 86 = .ok (.getfield 26, 3) := by decide +kernel
theorem dX5_allow_89 : decode cX5_allow 89 = .ok (.iload_n 1, 1) := by decide +kernel
theorem dX5_allow_90 : decode cX5_allow 90 = .ok (.iaload, 1) := by decide +kernel
theorem dX5_allow_91 : decode cX5_allow 91 = .ok (.iadd, 1) := by decide +kernel
theorem dX5_allow_92 : decode cX5_allow 92 = .ok (.istore 7, 2) := by decide +kernel
theorem dX5_allow_94 : decode cX5_allow 94 = .ok (.aload_n 0, 1) := by decide +kernel
theorem dX5_allow_95 : decode cX5_allow 95 = .ok (.getfield 33, 3) := by decide +kernel
theorem dX5_allow_98 : decode cX5_allow 98 = .ok (.iload 7, 2) := by decide +kernel
theorem dX5_allow_100 : decode cX5_allow 100 = .ok (.iload_n 2, 1) := by decide +kernel
theorem dX5_allow_101 : decode cX5_allow 101 = .ok (.iastore, 1) := by decide +kernel
theorem dX5_allow_102 : decode cX5_allow 102 = .ok (.aload_n 0, 1) := by decide +kernel
theorem dX5_allow_103 : decode cX5_allow 103 = .ok (.getfield 36, 3) := by decide +kernel
theorem dX5_allow_106 : decode cX5_allow 106 = .ok (.iload 7, 2) := by decide +kernel
theorem dX5_allow_108 : decode cX5_allow 108 = .ok (.iload_n 3, 1) := by decide +kernel
theorem dX5_allow_109 : decode cX5_allow 109 = .ok (.bastore, 1) := by decide +kernel
theorem dX5_allow_110 : decode cX5_allow 110 = .ok (.aload_n 0, 1) := by decide +kernel
theorem dX5_allow_111 : decode cX5_allow 111 = .ok (.getfield 39, 3) := by decide +kernel
theorem dX5_allow_114 : decode cX5_allow 114 = .ok (.iload 7, 2) := by decide +kernel
theorem dX5_allow_116 : decode cX5_allow 116 = .ok (.iload 4, 2) := by decide +kernel
theorem dX5_allow_118 : decode cX5_allow 118 = .ok (.iastore, 1) := by decide +kernel
theorem dX5_allow_119 : decode cX5_allow 119 = .ok (.aload_n 0, 1) := by decide +kernel
theorem dX5_allow_120 : decode cX5_allow 120 = .ok (.getfield 42, 3) := by decide +kernel
theorem dX5_allow_123 : decode cX5_allow 123 = .ok (.iload 7, 2) := by decide +kernel
theorem dX5_allow_125 : decode cX5_allow 125 = .ok (.iload 5, 2) := by decide +kernel
theorem dX5_allow_127 : decode cX5_allow 127 = .ok (.iastore, 1) := by decide +kernel
theorem dX5_allow_128 : decode cX5_allow 128 = .ok (.aload_n 0, 1) := by decide +kernel
theorem dX5_allow_129 : decode cX5_allow 129 = .ok (.getfield 26, 3) := by decide +kernel
theorem dX5_allow_132 : decode cX5_allow 132 = .ok (.iload_n 1, 1) := by decide +kernel
theorem dX5_allow_133 : decode cX5_allow 133 = .ok (.dup2, 1) := by decide +kernel
theorem dX5_allow_134 : decode cX5_allow 134 = .ok (.iaload, 1) := by decide +kernel
theorem dX5_allow_135 : decode cX5_allow 135 = .ok (.iconst 1, 1) := by decide +kernel
theorem dX5_allow_136 : decode cX5_allow 136 = .ok (.iadd, 1) := by decide +kernel
theorem dX5_allow_137 : decode cX5_allow 137 = .ok (.iastore, 1) := by decide +kernel
theorem dX5_allow_138 : decode cX5_allow 138 = .ok (.aload_n 0, 1) := by decide +kernel
theorem dX5_allow_139 : decode cX5_allow 139 = .ok (.getfield 26, 3) := by decide +kernel
theorem dX5_allow_142 : decode cX5_allow 142 = .ok (.iload_n 1, 1) := by decide +kernel
theorem dX5_allow_143 : decode cX5_allow 143 = .ok (.iaload, 1) := by decide +kernel
theorem dX5_allow_144 : decode cX5_allow 144 = .ok (.ireturn, 1) := by decide +kernel
set_option maxRecDepth 20000 in
theorem ggX5_drop_X5_isFolder : GoodIn wsX5_drop wsX5_isFolder := goodIn_r _ [10, 11, 12, 13, 9, 14, 20, 21, 22, 23, 24, 25, 26, 27, 28, 29, 30, 31, 32, 33, 34, 35, 36, 37, 38, 39] (by decide +kernel) (by decide +kernel)
set_option maxRecDepth 20000 in
theorem gX5_drop_X5_isFolder : GoodIn wsX5_drop (wsV RX5 88 RX5 yX5_isFolder wsX5_isFolder) := goodIn_app (goodIn_of _ (by decide +kernel)) ggX5_drop_X5_isFolder
set_option maxRecDepth 20000 in
theorem ggX5_drop_X5_in : GoodIn wsX5_drop wsX5_in := goodIn_r _ [14] (by decide +kernel) (by decide +kernel)
set_option maxRecDepth 20000 in
theorem gX5_drop_X5_in : GoodIn wsX5_drop (va_wsS RX5 63 yX5_in wsX5_in) := goodIn_app (goodIn_of _ (by decide +kernel)) ggX5_drop_X5_in
set_option maxRecDepth 20000 in
theorem ggX5_drop_X5_isFine : GoodIn wsX5_drop wsX5_isFine := goodIn_r _ [18, 19, 20, 21, 22, 23, 24, 25, 26, 27, 28, 29, 30, 31, 32, 33, 34, 35, 36, 37, 38, 39] (by decide +kernel) (by decide +kernel)
set_option maxRecDepth 20000 in
theorem gX5_drop_X5_isFine : GoodIn wsX5_drop (wsV RX5 82 RX5 yX5_isFine wsX5_isFine) := goodIn_app (goodIn_of _ (by decide +kernel)) ggX5_drop_X5_isFine
theorem dX5_drop_0 : decode cX5_drop 0 = .ok (.aload_n 0, 1) := by decide +kernel
theorem dX5_drop_1 : decode cX5_drop 1 = .ok (.aload_n 0, 1) := by decide +kernel
theorem dX5_drop_2 : decode cX5_drop 2 = .ok (.iload_n 1, 1) := by decide +kernel
theorem dX5_drop_3 : decode cX5_drop 3 = .ok (.invokevirtual 88, 3) := by decide +kernel
theorem dX5_drop_6 : decode cX5_drop 6 = .ok (.ifCond .eq 23, 3) := by decide +kernel
theorem dX5_drop_9 : decode cX5_drop 9 = .ok (.iload_n 2, 1) := by decide +kernel
theorem dX5_drop_10 : decode cX5_drop 10 = .ok (.iconst 0, 1) := by decide +kernel
theorem dX5_drop_11 : decode cX5_drop 11 = .ok (.aload_n 0, 1) := by decide +kernel
theorem dX5_drop_12 : decode cX5_drop 12 = .ok (.getfield 26, 3) := by decide +kernel
theorem dX5_drop_15 : decode cX5_drop 15 = .ok (.iload_n 1, 1) := by decide +kernel
theorem dX5_drop_16 : decode cX5_drop 16 = .ok (.iaload, 1) := by decide +kernel
theorem dX5_drop_17 : decode cX5_drop 17 = .ok (.iconst 1, 1) := by decide +kernel
theorem dX5_drop_18 : decode cX5_drop 18 = .ok (.isub, 1) := by decide +kernel
theorem dX5_drop_19 : decode cX5_drop 19 = .ok (.invokestatic 63, 3) := by decide +kernel
theorem dX5_drop_22 : decode cX5_drop 22 = .ok (.ifCond .eq 7, 3) := by decide +kernel
theorem dX5_drop_25 : decode cX5_drop 25 = .ok (.iconst 0, 1) := by decide +kernel
theorem dX5_drop_26 : decode cX5_drop 26 = .ok (.goto 4, 3) := by decide +kernel
theorem dX5_drop_29 : decode cX5_drop 29 = .ok (.iconst 1, 1) := by decide +kernel
theorem dX5_drop_30 : decode cX5_drop 30 = .ok (.invokevirtual 82, 3) := by decide +kernel
theorem dX5_drop_33 : decode cX5_drop 33 = .ok (.ifCond .ne 5, 3) := by decide +kernel
theorem dX5_drop_36 : decode cX5_drop 36 = .ok (.iconst 0, 1) := by decide +kernel
theorem dX5_drop_37 : decode cX5_drop 37 = .ok (.ireturn, 1) := by decide +kernel
theorem dX5_drop_38 : decode cX5_drop 38 = .ok (.aload_n 0, 1) := by decide +kernel
theorem dX5_drop_39 : decode cX5_drop 39 = .ok (.getfield 39, 3) := by decide +kernel
theorem dX5_drop_42 : decode cX5_drop 42 = .ok (.bipush 6, 2) := by decide +kernel
theorem dX5_drop_44 : decode cX5_drop 44 = .ok (.iload_n 1, 1) := by decide +kernel
theorem dX5_drop_45 : decode cX5_drop 45 = .ok (.imul, 1) := by decide +kernel
theorem dX5_drop_46 : decode cX5_drop 46 = .ok (.iload_n 2, 1) := by decide +kernel
theorem dX5_drop_47 : decode cX5_drop 47 = .ok (.iadd, 1) := by decide +kernel
theorem dX5_drop_48 : decode cX5_drop 48 = .ok (.iaload, 1) := by decide +kernel
theorem dX5_drop_49 : decode cX5_drop 49 = .ok (.istore_n 3, 1) := by decide +kernel
theorem dX5_drop_50 : decode cX5_drop 50 = .ok (.aload_n 0, 1) := by decide +kernel
theorem dX5_drop_51 : decode cX5_drop 51 = .ok (.getfield 26, 3) := by decide +kernel
theorem dX5_drop_54 : decode cX5_drop 54 = .ok (.iload_n 1, 1) := by decide +kernel
theorem dX5_drop_55 : decode cX5_drop 55 = .ok (.dup2, 1) := by decide +kernel
theorem dX5_drop_56 : decode cX5_drop 56 = .ok (.iaload, 1) := by decide +kernel
theorem dX5_drop_57 : decode cX5_drop 57 = .ok (.iconst 1, 1) := by decide +kernel
theorem dX5_drop_58 : decode cX5_drop 58 = .ok (.isub, 1) := by decide +kernel
theorem dX5_drop_59 : decode cX5_drop 59 = .ok (.iastore, 1) := by decide +kernel
theorem dX5_drop_60 : decode cX5_drop 60 = .ok (.bipush 6, 2) := by decide +kernel
theorem dX5_drop_62 : decode cX5_drop 62 = .ok (.iload_n 1, 1) := by decide +kernel
theorem dX5_drop_63 : decode cX5_drop 63 = .ok (.imul, 1) := by decide +kernel
theorem dX5_drop_64 : decode cX5_drop 64 = .ok (.iload_n 2, 1) := by decide +kernel
theorem dX5_drop_65 : decode cX5_drop 65 = .ok (.iadd, 1) := by decide +kernel
theorem dX5_drop_66 : decode cX5_drop 66 = .ok (.istore 4, 2) := by decide +kernel
theorem dX5_drop_68 : decode cX5_drop 68 = .ok (.iload 4, 2) := by decide +kernel
theorem dX5_drop_70 : decode cX5_drop 70 = .ok (.bipush 6, 2) := by decide +kernel
theorem dX5_drop_72 : decode cX5_drop 72 = .ok (.iload_n 1, 1) := by decide +kernel
theorem dX5_drop_73 : decode cX5_drop 73 = .ok (.imul, 1) := by decide +kernel
theorem dX5_drop_74 : decode cX5_drop 74 = .ok (.aload_n 0, 1) := by decide +kernel
theorem dX5_drop_75 : decode cX5_drop 75 = .ok (.getfield 26, 3) := by decide +kernel
theorem dX5_drop_78 : decode cX5_drop 78 = .ok (.iload_n 1, 1) := by decide +kernel
theorem dX5_drop_79 : decode cX5_drop 79 = .ok (.iaload, 1) := by decide +kernel
theorem dX5_drop_80 : decode cX5_drop 80 = .ok (.iadd, 1) := by decide +kernel
theorem dX5_drop_81 : decode cX5_drop 81 = .ok (.if_icmp .ge 73, 3) := by decide +kernel
theorem dX5_drop_84 : decode cX5_drop 84 = .ok (.aload_n 0, 1) := by decide +kernel
theorem dX5_drop_85 : decode cX5_drop 85 = .ok (.getfield 33, 3) := by decide +kernel
theorem dX5_drop_88 : decode cX5_drop 88 = .ok (.iload 4, 2) := by decide +kernel
theorem dX5_drop_90 : decode cX5_drop 90 = .ok (.aload_n 0, 1) := by decide +kernel
theorem dX5_drop_91 : decode cX5_drop 91 = .ok (.getfield 33, 3) := by decide +kernel
theorem dX5_drop_94 : decode cX5_drop 94 = .ok (.iload 4, 2) := by decide +kernel
theorem dX5_drop_96 : decode cX5_drop 96 = .ok (.iconst 1, 1) := by decide +kernel
theorem dX5_drop_97 : decode cX5_drop 97 = .ok (.iadd, 1) := by decide +kernel
theorem dX5_drop_98 : decode cX5_drop 98 = .ok (.iaload, 1) := by decide +kernel
theorem dX5_drop_99 : decode cX5_drop 99 = .ok (.iastore, 1) := by decide +kernel
theorem dX5_drop_100 : decode cX5_drop 100 = .ok (.aload_n 0, 1) := by decide +kernel
theorem dX5_drop_101 : decode cX5_drop 101 = .ok (.getfield 36, 3) := by decide +kernel
theorem dX5_drop_104 : decode cX5_drop 104 = .ok (.iload 4, 2) := by decide +kernel
theorem dX5_drop_106 : decode cX5_drop 106 = .ok (.aload_n 0, 1) := by decide +kernel
theorem dX5_drop_107 : decode cX5_drop 107 = .ok (.getfield 36, 3) := by decide +kernel
theorem dX5_drop_110 : decode cX5_drop 110 = .ok (.iload 4, 2) := by decide +kernel
theorem dX5_drop_112 : decode cX5_drop 112 = .ok (.iconst 1, 1) := by decide +kernel
theorem dX5_drop_113 : decode cX5_drop 113 = .ok (.iadd, 1) := by decide +kernel
theorem dX5_drop_114 : decode cX5_drop 114 = .ok (.baload, 1) := by decide +kernel
theorem dX5_drop_115 : decode cX5_drop 115 = .ok (.bastore, 1) := by decide +kernel
theorem dX5_drop_116 : decode cX5_drop 116 = .ok (.aload_n 0, 1) := by decide +kernel
theorem dX5_drop_117 : decode cX5_drop 117 = .ok (.getfield 39, 3) := by decide +kernel
theorem dX5_drop_120 : decode cX5_drop 120 = .ok (.iload 4, 2) := by decide +kernel
theorem dX5_drop_122 : decode cX5_drop 122 = .ok (.aload_n 0, 1) := by decide +kernel
theorem dX5_drop_123 : decode cX5_drop 123 = .ok (.getfield 39, 3) := by decide +kernel
theorem dX5_drop_126 : decode cX5_drop 126 = .ok (.iload 4, 2) := by decide +kernel
theorem dX5_drop_128 : decode cX5_drop 128 = .ok (.iconst 1, 1) := by decide +kernel
theorem dX5_drop_129 : decode cX5_drop 129 = .ok (.iadd, 1) := by decide +kernel
theorem dX5_drop_130 : decode cX5_drop 130 = .ok (.iaload, 1) := by decide +kernel
theorem dX5_drop_131 : decode cX5_drop 131 = .ok (.iastore, 1) := by decide +kernel
theorem dX5_drop_132 : decode cX5_drop 132 = .ok (.aload_n 0, 1) := by decide +kernel
theorem dX5_drop_133 : decode cX5_drop 133 = .ok (.getfield 42, 3) := by decide +kernel
theorem dX5_drop_136 : decode cX5_drop 136 = .ok (.iload 4, 2) := by decide +kernel
theorem dX5_drop_138 : decode cX5_drop 138 = .ok (.aload_n 0, 1) := by decide +kernel
theorem dX5_drop_139 : decode cX5_drop 139 = .ok (.getfield 42, 3) := by decide +kernel
theorem dX5_drop_142 : decode cX5_drop 142 = .ok (.iload 4, 2) := by decide +kernel
theorem dX5_drop_144 : decode cX5_drop 144 = .ok (.iconst 1, 1) := by decide +kernel
theorem dX5_drop_145 : decode cX5_drop 145 = .ok (.iadd, 1) := by decide +kernel
theorem dX5_drop_146 : decode cX5_drop 146 = .ok (.iaload, 1) := by decide +kernel
theorem dX5_drop_147 : decode cX5_drop 147 = .ok (.iastore, 1) := by decide +kernel
theorem dX5_drop_148 : decode cX5_drop 148 = .ok (.iinc 4 1, 3) := by decide +kernel
theorem dX5_drop_151 : decode cX5_drop 151 = .ok (.goto (-83), 3) := by decide +kernel
theorem dX5_drop_154 : decode cX5_drop 154 = .ok (.iload_n 3, 1) := by decide +kernel
theorem dX5_drop_155 : decode cX5_drop 155 = .ok (.ireturn, 1) := by decide +kernel
theorem dX5_folders_0 : decode cX5_folders 0 = .ok (.aload_n 0, 1) := by decide +kernel
theorem dX5_folders_1 : decode cX5_folders 1 = .ok (.iconst 0, 1) := by decide +kernel
theorem dX5_folders_2 : decode cX5_folders 2 = .ok (.putfield 60, 3) := by decide +kernel
theorem dX5_folders_5 : decode cX5_folders 5 = .ok (.aload_n 0, 1) := by decide +kernel
theorem dX5_folders_6 : decode cX5_folders 6 = .ok (.getfield 29, 3) := by decide +kernel
theorem dX5_folders_9 : decode cX5_folders 9 = .ok (.ireturn, 1) := by decide +kernel
set_option maxRecDepth 20000 in
theorem ggX5_isFor_X5_membersOf : GoodIn wsX5_isFor wsX5_membersOf := goodIn_r _ [6, 7, 8, 9, 10, 5, 11, 12, 13, 14, 15, 16, 17, 18, 19, 20, 21, 22, 23, 24, 25, 26, 27, 28, 29, 30, 31, 32, 33, 34, 35] (by decide +kernel) (by decide +kernel)
set_option maxRecDepth 20000 in
theorem gX5_isFor_X5_membersOf : GoodIn wsX5_isFor (wsV RX5 85 RX5 yX5_membersOf wsX5_membersOf) := goodIn_app (goodIn_of _ (by decide +kernel)) ggX5_isFor_X5_membersOf
set_option maxRecDepth 20000 in
theorem ggX5_isFor_X5_has : GoodIn wsX5_isFor wsX5_has := goodIn_r _ [15] (by decide +kernel) (by decide +kernel)
set_option maxRecDepth 20000 in
theorem gX5_isFor_X5_has : GoodIn wsX5_isFor (va_wsS RX5 67 yX5_has wsX5_has) := goodIn_app (goodIn_of _ (by decide +kernel)) ggX5_isFor_X5_has
theorem dX5_isFor_0 : decode cX5_isFor 0 = .ok (.aload_n 0, 1) := by decide +kernel
theorem dX5_isFor_1 : decode cX5_isFor 1 = .ok (.getfield 33, 3) := by decide +kernel
theorem dX5_isFor_4 : decode cX5_isFor 4 = .ok (.iload_n 1, 1) := by decide +kernel
theorem dX5_isFor_5 : decode cX5_isFor 5 = .ok (.iaload, 1) := by decide +kernel
theorem dX5_isFor_6 : decode cX5_isFor 6 = .ok (.bipush 8, 2) := by decide +kernel
theorem dX5_isFor_8 : decode cX5_isFor 8 = .ok (.if_icmp .ge 21, 3) := by decide +kernel
theorem dX5_isFor_11 : decode cX5_isFor 11 = .ok (.aload_n 0, 1) := by decide +kernel
theorem dX5_isFor_12 : decode cX5_isFor 12 = .ok (.getfield 33, 3) := by decide +kernel
theorem dX5_isFor_15 : decode cX5_isFor 15 = .ok (.iload_n 1, 1) := by decide +kernel
theorem dX5_isFor_16 : decode cX5_isFor 16 = .ok (.iaload, 1) := by decide +kernel
theorem dX5_isFor_17 : decode cX5_isFor 17 = .ok (.iload_n 2, 1) := by decide +kernel
theorem dX5_isFor_18 : decode cX5_isFor 18 = .ok (.if_icmp .ne 7, 3) := by decide +kernel
theorem dX5_isFor_21 : decode cX5_isFor 21 = .ok (.iconst 1, 1) := by decide +kernel
theorem dX5_isFor_22 : decode cX5_isFor 22 = .ok (.goto 24, 3) := by decide +kernel
theorem dX5_isFor_25 : decode cX5_isFor 25 = .ok (.iconst 0, 1) := by decide +kernel
theorem dX5_isFor_26 : decode cX5_isFor 26 = .ok (.goto 20, 3) := by decide +kernel
theorem dX5_isFor_29 : decode cX5_isFor 29 = .ok (.aload_n 0, 1) := by decide +kernel
theorem dX5_isFor_30 : decode cX5_isFor 30 = .ok (.aload_n 0, 1) := by decide +kernel
theorem dX5_isFor_31 : decode cX5_isFor 31 = .ok (.getfield 33, 3) := by decide +kernel
theorem dX5_isFor_34 : decode cX5_isFor 34 = .ok (.iload_n 1, 1) := by decide +kernel
theorem dX5_isFor_35 : decode cX5_isFor 35 = .ok (.iaload, 1) := by decide +kernel
theorem dX5_isFor_36 : decode cX5_isFor 36 = .ok (.bipush 8, 2) := by decide +kernel
theorem dX5_isFor_38 : decode cX5_isFor 38 = .ok (.isub, 1) := by decide +kernel
theorem dX5_isFor_39 : decode cX5_isFor 39 = .ok (.invokevirtual 85, 3) := by decide +kernel
theorem dX5_isFor_42 : decode cX5_isFor 42 = .ok (.iload_n 2, 1) := by decide +kernel
theorem dX5_isFor_43 : decode cX5_isFor 43 = .ok (.invokestatic 67, 3) := by decide +kernel
theorem dX5_isFor_46 : decode cX5_isFor 46 = .ok (.ireturn, 1) := by decide +kernel
set_option maxRecDepth 20000 in
theorem ggX5_rightsOf_X5_isFor : GoodIn wsX5_rightsOf wsX5_isFor := goodIn_r _ [12, 13, 14, 15, 16, 11, 17, 18, 19, 20, 21, 22, 23, 24, 25, 26, 27, 28, 29, 30, 31, 32, 33, 34, 35, 36, 37, 38, 39, 40, 41, 42, 43, 44, 45, 46] (by decide +kernel) (by decide +kernel)
set_option maxRecDepth 20000 in
theorem gX5_rightsOf_X5_isFor : GoodIn wsX5_rightsOf (wsV RX5 91 RX5 yX5_isFor wsX5_isFor) := goodIn_app (goodIn_of _ (by decide +kernel)) ggX5_rightsOf_X5_isFor
theorem dX5_rightsOf_0 : decode cX5_rightsOf 0 = .ok (.aload_n 0, 1) := by decide +kernel
theorem dX5_rightsOf_1 : decode cX5_rightsOf 1 = .ok (.getfield 19, 3) := by decide +kernel
theorem dX5_rightsOf_4 : decode cX5_rightsOf 4 = .ok (.iload_n 2, 1) := by decide +kernel
theorem dX5_rightsOf_5 : decode cX5_rightsOf 5 = .ok (.iaload, 1) := by decide +kernel
theorem dX5_rightsOf_6 : decode cX5_rightsOf 6 = .ok (.iload_n 1, 1) := by decide +kernel
theorem dX5_rightsOf_7 : decode cX5_rightsOf 7 = .ok (.if_icmp .ne 6, 3) := by decide +kernel
theorem dX5_rightsOf_10 : decode cX5_rightsOf 10 = .ok (.bipush 7, 2) := by decide +kernel
theorem dX5_rightsOf_12 : decode cX5_rightsOf 12 = .ok (.ireturn, 1) := by decide +kernel
theorem dX5_rightsOf_13 : decode cX5_rightsOf 13 = .ok (.iconst 0, 1) := by decide +kernel
theorem dX5_rightsOf_14 : decode cX5_rightsOf 14 = .ok (.istore_n 3, 1) := by decide +kernel
theorem dX5_rightsOf_15 : decode cX5_rightsOf 15 = .ok (.iconst 0, 1) := by decide +kernel
theorem dX5_rightsOf_16 : decode cX5_rightsOf 16 = .ok (.istore 4, 2) := by decide +kernel
theorem dX5_rightsOf_18 : decode cX5_rightsOf 18 = .ok (.iload_n 2, 1) := by decide +kernel
theorem dX5_rightsOf_19 : decode cX5_rightsOf 19 = .ok (.istore 5, 2) := by decide +kernel
theorem dX5_rightsOf_21 : decode cX5_rightsOf 21 = .ok (.iconst 1, 1) := by decide +kernel
theorem dX5_rightsOf_22 : decode cX5_rightsOf 22 = .ok (.istore 6, 2) := by decide +kernel
theorem dX5_rightsOf_24 : decode cX5_rightsOf 24 = .ok (.iload 6, 2) := by decide +kernel
theorem dX5_rightsOf_26 : decode cX5_rightsOf 26 = .ok (.ifCond .eq 182, 3) := by decide +kernel
theorem dX5_rightsOf_29 : decode cX5_rightsOf 29 = .ok (.bipush 6, 2) := by decide +kernel
theorem dX5_rightsOf_31 : decode cX5_rightsOf 31 = .ok (.iload 5, 2) := by decide +kernel
theorem dX5_rightsOf_33 : decode cX5_rightsOf 33 = .ok (.imul, 1) := by decide +kernel
theorem dX5_rightsOf_34 : decode cX5_rightsOf 34 = .ok (.istore 7, 2) := by decide +kernel
theorem dX5_rightsOf_36 : decode cX5_rightsOf 36 = .ok (.iload 7, 2) := by decide +kernel
theorem dX5_rightsOf_38 : decode cX5_rightsOf 38 = .ok (.bipush 6, 2) := by decide +kernel
theorem dX5_rightsOf_40 : decode cX5_rightsOf 40 = .ok (.iload 5, 2) := by decide +kernel
theorem dX5_rightsOf_42 : decode cX5_rightsOf 42 = .ok (.imul, 1) := by decide +kernel
theorem dX5_rightsOf_43 : decode cX5_rightsOf 43 = .ok (.aload_n 0, 1) := by decide +kernel
theorem dX5_rightsOf_44 : decode cX5_rightsOf 44 = .ok (.getfield 26, 3) := by decide +kernel
theorem dX5_rightsOf_47 : decode cX5_rightsOf 47 = .ok (.iload 5, 2) := by decide +kernel
theorem dX5_rightsOf_49 : decode cX5_rightsOf 49 = .ok (.iaload, 1) := by decide +kernel
theorem dX5_rightsOf_50 : decode cX5_rightsOf 50 = .ok (.iadd, 1) := by decide +kernel
theorem dX5_rightsOf_51 : decode cX5_rightsOf 51 = .ok (.if_icmp .ge 107, 3) := by decide +kernel
theorem dX5_rightsOf_54 : decode cX5_rightsOf 54 = .ok (.iload 5, 2) := by decide +kernel
theorem dX5_rightsOf_56 : decode cX5_rightsOf 56 = .ok (.iload_n 2, 1) := by decide +kernel
theorem dX5_rightsOf_57 : decode cX5_rightsOf 57 = .ok (.if_icmp .ne 22, 3) := by decide +kernel
theorem dX5_rightsOf_60 : decode cX5_rightsOf 60 = .ok (.aload_n 0, 1) := by decide +kernel
theorem dX5_rightsOf_61 : decode cX5_rightsOf 61 = .ok (.getfield 42, 3) := by decide +kernel
theorem dX5_rightsOf_64 : decode cX5_rightsOf 64 = .ok (.iload 7, 2) := by decide +kernel
theorem dX5_rightsOf_66 : decode cX5_rightsOf 66 = .ok (.iaload, 1) := by decide +kernel
theorem dX5_rightsOf_67 : decode cX5_rightsOf 67 = .ok (.iconst 1, 1) := by decide +kernel
theorem dX5_rightsOf_68 : decode cX5_rightsOf 68 = .ok (.if_icmp .eq 7, 3) := by decide +kernel
theorem dX5_rightsOf_71 : decode cX5_rightsOf 71 = .ok (.iconst 1, 1) := by decide +kernel
theorem dX5_rightsOf_72 : decode cX5_rightsOf 72 = .ok (.goto 22, 3) := by decide +kernel
theorem dX5_rightsOf_75 : decode cX5_rightsOf 75 = .ok (.iconst 0, 1) := by decide +kernel
theorem dX5_rightsOf_76 : decode cX5_rightsOf 76 = .ok (.goto 18, 3) := by decide +kernel
theorem dX5_rightsOf_79 : decode cX5_rightsOf 79 = .ok (.aload_n 0, 1) := by decide +kernel
theorem dX5_rightsOf_80 : decode cX5_rightsOf 80 = .ok (.getfield 42, 3) := by decide +kernel
theorem dX5_rightsOf_83 : decode cX5_rightsOf 83 = .ok (.iload 7, 2) := by decide +kernel
theorem dX5_rightsOf_85 : decode cX5_rightsOf 85 = .ok (.iaload, 1) := by decide +kernel
theorem dX5_rightsOf_86 : decode cX5_rightsOf 86 = .ok (.ifCond .eq 7, 3) := by decide +kernel
theorem dX5_rightsOf_89 : decode cX5_rightsOf 89 = .ok (.iconst 1, 1) := by decide +kernel
theorem dX5_rightsOf_90 : decode cX5_rightsOf 90 = .ok (.goto 4, 3) := by decide +kernel
theorem dX5_rightsOf_93 : decode cX5_rightsOf 93 = .ok (.iconst 0, 1) := by decide +kernel
theorem dX5_rightsOf_94 : decode cX5_rightsOf 94 = .ok (.istore 8, 2) := by decide +kernel
theorem dX5_rightsOf_96 : decode cX5_rightsOf 96 = .ok (.iload 8, 2) := by decide +kernel
theorem dX5_rightsOf_98 : decode cX5_rightsOf 98 = .ok (.ifCond .eq 54, 3) := by decide +kernel
theorem dX5_rightsOf_101 : decode cX5_rightsOf 101 = .ok (.aload_n 0, 1) := by decide +kernel
theorem dX5_rightsOf_102 : decode cX5_rightsOf 102 = .ok (.iload 7, 2) := by decide +kernel
theorem dX5_rightsOf_104 : decode cX5_rightsOf 104 = .ok (.iload_n 1, 1) := by decide +kernel
theorem dX5_rightsOf_105 : decode cX5_rightsOf 105 = .ok (.invokevirtual 91, 3) := by decide +kernel
theorem dX5_rightsOf_108 : decode cX5_rightsOf 108 = .ok (.ifCond .eq 44, 3) := by decide +kernel
theorem dX5_rightsOf_111 : decode cX5_rightsOf 111 = .ok (.iload_n 3, 1) := by decide +kernel
theorem dX5_rightsOf_112 : decode cX5_rightsOf 112 = .ok (.aload_n 0, 1) := by decide +kernel
theorem dX5_rightsOf_113 : decode cX5_rightsOf 113 = .ok (.getfield 36, 3) := by decide +kernel
theorem dX5_rightsOf_116 : decode cX5_rightsOf 116 = .ok (.iload 7, 2) := by decide +kernel
theorem dX5_rightsOf_118 : decode cX5_rightsOf 118 = .ok (.baload, 1) := by decide +kernel
theorem dX5_rightsOf_119 : decode cX5_rightsOf 119 = .ok (.ifCond .eq 18, 3) := by decide +kernel
theorem dX5_rightsOf_122 : decode cX5_rightsOf 122 = .ok (.aload_n 0, 1) := by decide +kernel
theorem dX5_rightsOf_123 : decode cX5_rightsOf 123 = .ok (.getfield 39, 3) := by decide +kernel
theorem dX5_rightsOf_126 : decode cX5_rightsOf 126 = .ok (.iload 7, 2) := by decide +kernel
theorem dX5_rightsOf_128 : decode cX5_rightsOf 128 = .ok (.iaload, 1) := by decide +kernel
theorem dX5_rightsOf_129 : decode cX5_rightsOf 129 = .ok (.iload 4, 2) := by decide +kernel
theorem dX5_rightsOf_131 : decode cX5_rightsOf 131 = .ok (.iconst (-1), 1) := by decide +kernel
theorem dX5_rightsOf_132 : decode cX5_rightsOf 132 = .ok (.ixor, 1) := by decide +kernel
theorem dX5_rightsOf_133 : decode cX5_rightsOf 133 = .ok (.iand, 1) := by decide +kernel
theorem dX5_rightsOf_134 : decode cX5_rightsOf 134 = .ok (.goto 4, 3) := by decide +kernel
theorem dX5_rightsOf_137 : decode cX5_rightsOf 137 = .ok (.iconst 0, 1) := by decide +kernel
theorem dX5_rightsOf_138 : decode cX5_rightsOf 138 = .ok (.ior, 1) := by decide +kernel
theorem dX5_rightsOf_139 : decode cX5_rightsOf 139 = .ok (.istore_n 3, 1) := by decide +kernel
theorem dX5_rightsOf_140 : decode cX5_rightsOf 140 = .ok (.iload 4, 2) := by decide +kernel
theorem dX5_rightsOf_142 : decode cX5_rightsOf 142 = .ok (.aload_n 0, 1) := by decide +kernel
theorem dX5_rightsOf_143 : decode cX5_rightsOf 143 = .ok (.getfield 39, 3) := by decide +kernel
theorem dX5_rightsOf_146 : decode cX5_rightsOf 146 = .ok (.iload 7, 2) := by decide +kernel
theorem dX5_rightsOf_148 : decode cX5_rightsOf 148 = .ok (.iaload, 1) := by decide +kernel
theorem dX5_rightsOf_149 : decode cX5_rightsOf 149 = .ok (.ior, 1) := by decide +kernel
theorem dX5_rightsOf_150 : decode cX5_rightsOf 150 = .ok (.istore 4, 2) := by decide +kernel
theorem dX5_rightsOf_152 : decode cX5_rightsOf 152 = .ok (.iinc 7 1, 3) := by decide +kernel
theorem dX5_rightsOf_155 : decode cX5_rightsOf 155 = .ok (.goto (-119), 3) := by decide +kernel
theorem dX5_rightsOf_158 : decode cX5_rightsOf 158 = .ok (.aload_n 0, 1) := by decide +kernel
theorem dX5_rightsOf_159 : decode cX5_rightsOf 159 = .ok (.getfield 22, 3) := by decide +kernel
theorem dX5_rightsOf_162 : decode cX5_rightsOf 162 = .ok (.iload 5, 2) := by decide +kernel
theorem dX5_rightsOf_164 : decode cX5_rightsOf 164 = .ok (.baload, 1) := by decide +kernel
theorem dX5_rightsOf_165 : decode cX5_rightsOf 165 = .ok (.ifCond .eq 18, 3) := by decide +kernel
theorem dX5_rightsOf_168 : decode cX5_rightsOf 168 = .ok (.aload_n 0, 1) := by decide +kernel
theorem dX5_rightsOf_169 : decode cX5_rightsOf 169 = .ok (.getfield 16, 3) := by decide +kernel
theorem dX5_rightsOf_172 : decode cX5_rightsOf 172 = .ok (.iload 5, 2) := by decide +kernel
theorem dX5_rightsOf_174 : decode cX5_rightsOf 174 = .ok (.iaload, 1) := by decide +kernel
theorem dX5_rightsOf_175 : decode cX5_rightsOf 175 = .ok (.iconst (-1), 1) := by decide +kernel
theorem dX5_rightsOf_176 : decode cX5_rightsOf 176 = .ok (.if_icmp .eq 7, 3) := by decide +kernel
theorem dX5_rightsOf_179 : decode cX5_rightsOf 179 = .ok (.iconst 1, 1) := by decide +kernel
theorem dX5_rightsOf_180 : decode cX5_rightsOf 180 = .ok (.goto 4, 3) := by decide +kernel
theorem dX5_rightsOf_183 : decode cX5_rightsOf 183 = .ok (.iconst 0, 1) := by decide +kernel
theorem dX5_rightsOf_184 : decode cX5_rightsOf 184 = .ok (.istore 6, 2) := by decide +kernel
theorem dX5_rightsOf_186 : decode cX5_rightsOf 186 = .ok (.iload 6, 2) := by decide +kernel
theorem dX5_rightsOf_188 : decode cX5_rightsOf 188 = .ok (.ifCond .eq 13, 3) := by decide +kernel
theorem dX5_rightsOf_191 : decode cX5_rightsOf 191 = .ok (.aload_n 0, 1) := by decide +kernel
theorem dX5_rightsOf_192 : decode cX5_rightsOf 192 = .ok (.getfield 16, 3) := by decide +kernel
theorem dX5_rightsOf_195 : decode cX5_rightsOf 195 = .ok (.iload 5, 2) := by decide +kernel
theorem dX5_rightsOf_197 : decode cX5_rightsOf 197 = .ok (.iaload, 1) := by decide +kernel
theorem dX5_rightsOf_198 : decode cX5_rightsOf 198 = .ok (.goto 5, 3) := by decide +kernel
theorem dX5_rightsOf_201 : decode cX5_rightsOf 201 = .ok (.iload 5, 2) := by decide +kernel
theorem dX5_rightsOf_203 : decode cX5_rightsOf 203 = .ok (.istore 5, 2) := by decide +kernel
theorem dX5_rightsOf_205 : decode cX5_rightsOf 205 = .ok (.goto (-181), 3) := by decide +kernel
theorem dX5_rightsOf_208 : decode cX5_rightsOf 208 = .ok (.iload_n 3, 1) := by decide +kernel
theorem dX5_rightsOf_209 : decode cX5_rightsOf 209 = .ok (.ireturn, 1) := by decide +kernel
set_option maxRecDepth 20000 in
theorem ggX5_rights_X5_isPerson : GoodIn wsX5_rights wsX5_isPerson := goodIn_r _ [4, 5, 6, 3, 7] (by decide +kernel) (by decide +kernel)
set_option maxRecDepth 20000 in
theorem gX5_rights_X5_isPerson : GoodIn wsX5_rights (va_wsS RX5 79 yX5_isPerson wsX5_isPerson) := goodIn_app (goodIn_of _ (by decide +kernel)) ggX5_rights_X5_isPerson
set_option maxRecDepth 20000 in
theorem ggX5_rights_X5_isFolder : GoodIn wsX5_rights wsX5_isFolder := goodIn_r _ [11, 12, 5, 6, 3, 7, 47, 48, 49, 50, 51, 52, 53, 54, 55, 56, 57, 58, 59, 60, 61, 62, 63, 64, 65, 66] (by decide +kernel) (by decide +kernel)
set_option maxRecDepth 20000 in
theorem gX5_rights_X5_isFolder : GoodIn wsX5_rights (wsV RX5 88 RX5 yX5_isFolder wsX5_isFolder) := goodIn_app (goodIn_of _ (by decide +kernel)) ggX5_rights_X5_isFolder
set_option maxRecDepth 20000 in
theorem ggX5_rights_X5_isFine : GoodIn wsX5_rights wsX5_isFine := goodIn_r _ [16, 17, 47, 48, 49, 50, 51, 52, 53, 54, 55, 56, 57, 58, 59, 60, 61, 62, 63, 64, 65, 66] (by decide +kernel) (by decide +kernel)
set_option maxRecDepth 20000 in
theorem gX5_rights_X5_isFine : GoodIn wsX5_rights (wsV RX5 82 RX5 yX5_isFine wsX5_isFine) := goodIn_app (goodIn_of _ (by decide +kernel)) ggX5_rights_X5_isFine
set_option maxRecDepth 20000 in
theorem ggX5_rights_X5_rightsOf : GoodIn wsX5_rights wsX5_rightsOf := goodIn_r _ [21, 22, 23, 24, 25, 26, 27, 28, 29, 30, 31, 3, 32, 33, 34, 35, 36, 37, 38, 39, 40, 41, 42, 43, 44, 45, 46, 47, 48, 49, 50, 51, 52, 53, 54, 55, 56, 57, 58, 59, 60, 61, 62, 63, 64, 65, 66] (by decide +kernel) (by decide +kernel)
set_option maxRecDepth 20000 in
theorem gX5_rights_X5_rightsOf : GoodIn wsX5_rights (wsV RX5 94 RX5 yX5_rightsOf wsX5_rightsOf) := goodIn_app (goodIn_of _ (by decide +kernel)) ggX5_rights_X5_rightsOf
theorem dX5_rights_0 : decode cX5_rights 0 = .ok (.aload_n 0, 1) := by decide +kernel
theorem dX5_rights_1 : decode cX5_rights 1 = .ok (.iload_n 1, 1) := by decide +kernel
theorem dX5_rights_2 : decode cX5_rights 2 = .ok (.invokestatic 79, 3) := by decide +kernel
theorem dX5_rights_5 : decode cX5_rights 5 = .ok (.ifCond .eq 15, 3) := by decide +kernel
theorem dX5_rights_8 : decode cX5_rights 8 = .ok (.aload_n 0, 1) := by decide +kernel
theorem dX5_rights_9 : decode cX5_rights 9 = .ok (.iload_n 2, 1) := by decide +kernel
theorem dX5_rights_10 : decode cX5_rights 10 = .ok (.invokevirtual 88, 3) := by decide +kernel
theorem dX5_rights_13 : decode cX5_rights 13 = .ok (.ifCond .eq 7, 3) := by decide +kernel
theorem dX5_rights_16 : decode cX5_rights 16 = .ok (.iconst 0, 1) := by decide +kernel
theorem dX5_rights_17 : decode cX5_rights 17 = .ok (.goto 4, 3) := by decide +kernel
theorem dX5_rights_20 : decode cX5_rights 20 = .ok (.iconst 1, 1) := by decide +kernel
theorem dX5_rights_21 : decode cX5_rights 21 = .ok (.invokevirtual 82, 3) := by decide +kernel
theorem dX5_rights_24 : decode cX5_rights 24 = .ok (.ifCond .eq 12, 3) := by decide +kernel
theorem dX5_rights_27 : decode cX5_rights 27 = .ok (.aload_n 0, 1) := by decide +kernel
theorem dX5_rights_28 : decode cX5_rights 28 = .ok (.iload_n 1, 1) := by decide +kernel
theorem dX5_rights_29 : decode cX5_rights 29 = .ok (.iload_n 2, 1) := by decide +kernel
theorem dX5_rights_30 : decode cX5_rights 30 = .ok (.invokevirtual 94, 3) := by decide +kernel
theorem dX5_rights_33 : decode cX5_rights 33 = .ok (.goto 4, 3) := by decide +kernel
theorem dX5_rights_36 : decode cX5_rights 36 = .ok (.iconst 0, 1) := by decide +kernel
theorem dX5_rights_37 : decode cX5_rights 37 = .ok (.ireturn, 1) := by decide +kernel
set_option maxRecDepth 20000 in
theorem ggX5_rightsBackwards_X5_rights : GoodIn wsX5_rightsBackwards wsX5_rights := goodIn_r _ [5, 6, 7, 4, 8, 9, 10, 11, 12, 13, 14, 15, 16, 17, 18, 19, 20, 21, 22, 23, 24, 25, 26, 27, 28, 29, 30, 31, 32, 33, 34, 35, 36, 37, 38, 39, 40, 41, 42, 43, 44, 45, 46, 47, 48, 49, 50, 51, 52, 53, 54, 55, 56, 57, 58, 59, 60, 61, 62, 63, 64, 65, 66, 67, 68, 69, 70] (by decide +kernel) (by decide +kernel)
set_option maxRecDepth 20000 in
theorem gX5_rightsBackwards_X5_rights : GoodIn wsX5_rightsBackwards (wsV RX5 98 RX5 yX5_rights wsX5_rights) := goodIn_app (goodIn_of _ (by decide +kernel)) ggX5_rightsBackwards_X5_rights
theorem dX5_rightsBackwards_0 : decode cX5_rightsBackwards 0 = .ok (.aload_n 0, 1) := by decide +kernel
theorem dX5_rightsBackwards_1 : decode cX5_rightsBackwards 1 = .ok (.iload_n 1, 1) := by decide +kernel
theorem dX5_rightsBackwards_2 : decode cX5_rightsBackwards 2 = .ok (.iload_n 2, 1) := by decide +kernel
theorem dX5_rightsBackwards_3 : decode cX5_rightsBackwards 3 = .ok (.invokevirtual 98, 3) := by decide +kernel
theorem dX5_rightsBackwards_6 : decode cX5_rightsBackwards 6 = .ok (.ireturn, 1) := by decide +kernel
set_option maxRecDepth 20000 in
theorem ggX5_common_X5_has : GoodIn wsX5_common wsX5_has := goodIn_r _ [5] (by decide +kernel) (by decide +kernel)
set_option maxRecDepth 20000 in
theorem gX5_common_X5_has : GoodIn wsX5_common (va_wsS RX5 67 yX5_has wsX5_has) := goodIn_app (goodIn_of _ (by decide +kernel)) ggX5_common_X5_has
theorem dX5_common_0 : decode cX5_common 0 = .ok (.iload_n 1, 1) := by decide +kernel
theorem dX5_common_1 : decode cX5_common 1 = .ok (.ifCond .ne 7, 3) := by decide +kernel
theorem dX5_common_4 : decode cX5_common 4 = .ok (.iconst 0, 1) := by decide +kernel
theorem dX5_common_5 : decode cX5_common 5 = .ok (.goto 5, 3) := by decide +kernel
theorem dX5_common_8 : decode cX5_common 8 = .ok (.bipush 7, 2) := by decide +kernel
theorem dX5_common_10 : decode cX5_common 10 = .ok (.istore_n 2, 1) := by decide +kernel
theorem dX5_common_11 : decode cX5_common 11 = .ok (.iconst 0, 1) := by decide +kernel
theorem dX5_common_12 : decode cX5_common 12 = .ok (.istore_n 3, 1) := by decide +kernel
theorem dX5_common_13 : decode cX5_common 13 = .ok (.iload_n 3, 1) := by decide +kernel
theorem dX5_common_14 : decode cX5_common 14 = .ok (.bipush 8, 2) := by decide +kernel
theorem dX5_common_16 : decode cX5_common 16 = .ok (.if_icmp .ge 31, 3) := by decide +kernel
theorem dX5_common_19 : decode cX5_common 19 = .ok (.iload_n 2, 1) := by decide +kernel
theorem dX5_common_20 : decode cX5_common 20 = .ok (.iload_n 1, 1) := by decide +kernel
theorem dX5_common_21 : decode cX5_common 21 = .ok (.iload_n 3, 1) := by decide +kernel
theorem dX5_common_22 : decode cX5_common 22 = .ok (.invokestatic 67, 3) := by decide +kernel
theorem dX5_common_25 : decode cX5_common 25 = .ok (.ifCond .eq 12, 3) := by decide +kernel
theorem dX5_common_28 : decode cX5_common 28 = .ok (.aload_n 0, 1) := by decide +kernel
theorem dX5_common_29 : decode cX5_common 29 = .ok (.getfield 45, 3) := by decide +kernel
theorem dX5_common_32 : decode cX5_common 32 = .ok (.iload_n 3, 1) := by decide +kernel
theorem dX5_common_33 : decode cX5_common 33 = .ok (.iaload, 1) := by decide +kernel
theorem dX5_common_34 : decode cX5_common 34 = .ok (.goto 5, 3) := by decide +kernel
theorem dX5_common_37 : decode cX5_common 37 = .ok (.bipush 7, 2) := by decide +kernel
theorem dX5_common_39 : decode cX5_common 39 = .ok (.iand, 1) := by decide +kernel
theorem dX5_common_40 : decode cX5_common 40 = .ok (.istore_n 2, 1) := by decide +kernel
theorem dX5_common_41 : decode cX5_common 41 = .ok (.iinc 3 1, 3) := by decide +kernel
theorem dX5_common_44 : decode cX5_common 44 = .ok (.goto (-31), 3) := by decide +kernel
theorem dX5_common_47 : decode cX5_common 47 = .ok (.iload_n 2, 1) := by decide +kernel
theorem dX5_common_48 : decode cX5_common 48 = .ok (.ireturn, 1) := by decide +kernel
set_option maxRecDepth 20000 in
theorem ggX5_fits_X5_membersOf : GoodIn wsX5_fits wsX5_membersOf := goodIn_r _ [11, 12, 13, 14, 15, 10, 16, 17, 18, 19, 20, 28, 29, 30, 31, 32, 33, 34, 35, 36, 37, 38, 39, 40, 41, 42, 43, 44, 45, 46, 47] (by decide +kernel) (by decide +kernel)
set_option maxRecDepth 20000 in
theorem gX5_fits_X5_membersOf : GoodIn wsX5_fits (wsV RX5 85 RX5 yX5_membersOf wsX5_membersOf) := goodIn_app (goodIn_of _ (by decide +kernel)) ggX5_fits_X5_membersOf
set_option maxRecDepth 20000 in
theorem ggX5_fits_X5_common : GoodIn wsX5_fits wsX5_common := goodIn_r _ [24, 6, 18, 19, 10, 20, 28, 29, 30, 31, 32, 33, 34, 35, 36, 37, 38, 39, 40, 41, 42, 43, 44, 45, 46, 47] (by decide +kernel) (by decide +kernel)
set_option maxRecDepth 20000 in
theorem gX5_fits_X5_common : GoodIn wsX5_fits (wsV RX5 104 RX5 yX5_common wsX5_common) := goodIn_app (goodIn_of _ (by decide +kernel)) ggX5_fits_X5_common
set_option maxRecDepth 20000 in
theorem ggX5_fits_X5_has : GoodIn wsX5_fits wsX5_has := goodIn_r _ [20] (by decide +kernel) (by decide +kernel)
set_option maxRecDepth 20000 in
theorem gX5_fits_X5_has : GoodIn wsX5_fits (va_wsS RX5 67 yX5_has wsX5_has) := goodIn_app (goodIn_of _ (by decide +kernel)) ggX5_fits_X5_has
set_option maxRecDepth 20000 in
theorem ggX5_fits_X5_size : GoodIn wsX5_fits wsX5_size := goodIn_r _ [27] (by decide +kernel) (by decide +kernel)
set_option maxRecDepth 20000 in
theorem gX5_fits_X5_size : GoodIn wsX5_fits (va_wsS RX5 113 yX5_size wsX5_size) := goodIn_app (goodIn_of _ (by decide +kernel)) ggX5_fits_X5_size
theorem dX5_fits_0 : decode cX5_fits 0 = .ok (.sipush 255, 3) := by decide +kernel
theorem dX5_fits_3 : decode cX5_fits 3 = .ok (.aload_n 0, 1) := by decide +kernel
theorem dX5_fits_4 : decode cX5_fits 4 = .ok (.getfield 101, 3) := by decide +kernel
theorem dX5_fits_7 : decode cX5_fits 7 = .ok (.iconst (-1), 1) := by decide +kernel
theorem dX5_fits_8 : decode cX5_fits 8 = .ok (.ixor, 1) := by decide +kernel
theorem dX5_fits_9 : decode cX5_fits 9 = .ok (.iand, 1) := by decide +kernel
theorem dX5_fits_10 : decode cX5_fits 10 = .ok (.iconst 1, 1) := by decide +kernel
theorem dX5_fits_11 : decode cX5_fits 11 = .ok (.aload_n 0, 1) := by decide +kernel
theorem dX5_fits_12 : decode cX5_fits 12 = .ok (.getfield 19, 3) := by decide +kernel
theorem dX5_fits_15 : decode cX5_fits 15 = .ok (.iload_n 1, 1) := by decide +kernel
theorem dX5_fits_16 : decode cX5_fits 16 = .ok (.iaload, 1) := by decide +kernel
theorem dX5_fits_17 : decode cX5_fits 17 = .ok (.ishl, 1) := by decide +kernel
theorem dX5_fits_18 : decode cX5_fits 18 = .ok (.iconst (-1), 1) := by decide +kernel
theorem dX5_fits_19 : decode cX5_fits 19 = .ok (.ixor, 1) := by decide +kernel
theorem dX5_fits_20 : decode cX5_fits 20 = .ok (.iand, 1) := by decide +kernel
theorem dX5_fits_21 : decode cX5_fits 21 = .ok (.istore_n 3, 1) := by decide +kernel
theorem dX5_fits_22 : decode cX5_fits 22 = .ok (.iload_n 2, 1) := by decide +kernel
theorem dX5_fits_23 : decode cX5_fits 23 = .ok (.iconst (-1), 1) := by decide +kernel
theorem dX5_fits_24 : decode cX5_fits 24 = .ok (.if_icmp .ne 7, 3) := by decide +kernel
theorem dX5_fits_27 : decode cX5_fits 27 = .ok (.iconst 0, 1) := by decide +kernel
theorem dX5_fits_28 : decode cX5_fits 28 = .ok (.goto 10, 3) := by decide +kernel
theorem dX5_fits_31 : decode cX5_fits 31 = .ok (.aload_n 0, 1) := by decide +kernel
theorem dX5_fits_32 : decode cX5_fits 32 = .ok (.iload_n 2, 1) := by decide +kernel
theorem dX5_fits_33 : decode cX5_fits 33 = .ok (.invokevirtual 85, 3) := by decide +kernel
theorem dX5_fits_36 : decode cX5_fits 36 = .ok (.iload_n 3, 1) := by decide +kernel
theorem dX5_fits_37 : decode cX5_fits 37 = .ok (.iand, 1) := by decide +kernel
theorem dX5_fits_38 : decode cX5_fits 38 = .ok (.istore 4, 2) := by decide +kernel
theorem dX5_fits_40 : decode cX5_fits 40 = .ok (.aload_n 0, 1) := by decide +kernel
theorem dX5_fits_41 : decode cX5_fits 41 = .ok (.aload_n 0, 1) := by decide +kernel
theorem dX5_fits_42 : decode cX5_fits 42 = .ok (.iload 4, 2) := by decide +kernel
theorem dX5_fits_44 : decode cX5_fits 44 = .ok (.invokevirtual 104, 3) := by decide +kernel
theorem dX5_fits_47 : decode cX5_fits 47 = .ok (.putfield 107, 3) := by decide +kernel
theorem dX5_fits_50 : decode cX5_fits 50 = .ok (.aload_n 0, 1) := by decide +kernel
theorem dX5_fits_51 : decode cX5_fits 51 = .ok (.aload_n 0, 1) := by decide +kernel
theorem dX5_fits_52 : decode cX5_fits 52 = .ok (.iload_n 3, 1) := by decide +kernel
theorem dX5_fits_53 : decode cX5_fits 53 = .ok (.iload 4, 2) := by decide +kernel
theorem dX5_fits_55 : decode cX5_fits 55 = .ok (.iconst (-1), 1) := by decide +kernel
theorem dX5_fits_56 : decode cX5_fits 56 = .ok (.ixor, 1) := by decide +kernel
theorem dX5_fits_57 : decode cX5_fits 57 = .ok (.iand, 1) := by decide +kernel
theorem dX5_fits_58 : decode cX5_fits 58 = .ok (.invokevirtual 104, 3) := by decide +kernel
theorem dX5_fits_61 : decode cX5_fits 61 = .ok (.putfield 110, 3) := by decide +kernel
theorem dX5_fits_64 : decode cX5_fits 64 = .ok (.iconst 0, 1) := by decide +kernel
theorem dX5_fits_65 : decode cX5_fits 65 = .ok (.istore 5, 2) := by decide +kernel
theorem dX5_fits_67 : decode cX5_fits 67 = .ok (.iconst 0, 1) := by decide +kernel
theorem dX5_fits_68 : decode cX5_fits 68 = .ok (.istore 6, 2) := by decide +kernel
theorem dX5_fits_70 : decode cX5_fits 70 = .ok (.iload 6, 2) := by decide +kernel
theorem dX5_fits_72 : decode cX5_fits 72 = .ok (.bipush 8, 2) := by decide +kernel
theorem dX5_fits_74 : decode cX5_fits 74 = .ok (.if_icmp .ge 100, 3) := by decide +kernel
theorem dX5_fits_77 : decode cX5_fits 77 = .ok (.aload_n 0, 1) := by decide +kernel
theorem dX5_fits_78 : decode cX5_fits 78 = .ok (.getfield 48, 3) := by decide +kernel
theorem dX5_fits_81 : decode cX5_fits 81 = .ok (.iload 6, 2) := by decide +kernel
theorem dX5_fits_83 : decode cX5_fits 83 = .ok (.iload 6, 2) := by decide +kernel
theorem dX5_fits_85 : decode cX5_fits 85 = .ok (.aload_n 0, 1) := by decide +kernel
theorem dX5_fits_86 : decode cX5_fits 86 = .ok (.getfield 19, 3) := by decide +kernel
theorem dX5_fits_89 : decode cX5_fits 89 = .ok (.iload_n 1, 1) := by decide +kernel
theorem dX5_fits_90 : decode cX5_fits 90 = .ok (.iaload, 1) := by decide +kernel
theorem dX5_fits_91 : decode cX5_fits 91 = .ok (.if_icmp .ne 8, 3) := by decide +kernel
theorem dX5_fits_94 : decode cX5_fits 94 = .ok (.bipush 7, 2) := by decide +kernel
theorem dX5_fits_96 : decode cX5_fits 96 = .ok (.goto 46, 3) := by decide +kernel
theorem dX5_fits_99 : decode cX5_fits 99 = .ok (.aload_n 0, 1) := by decide +kernel
theorem dX5_fits_100 : decode cX5_fits 100 = .ok (.getfield 101, 3) := by decide +kernel
theorem dX5_fits_103 : decode cX5_fits 103 = .ok (.iload 6, 2) := by decide +kernel
theorem dX5_fits_105 : decode cX5_fits 105 = .ok (.invokestatic 67, 3) := by decide +kernel
theorem dX5_fits_108 : decode cX5_fits 108 = .ok (.ifCond .eq 13, 3) := by decide +kernel
theorem dX5_fits_111 : decode cX5_fits 111 = .ok (.aload_n 0, 1) := by decide +kernel
theorem dX5_fits_112 : decode cX5_fits 112 = .ok (.getfield 45, 3) := by decide +kernel
theorem dX5_fits_115 : decode cX5_fits 115 = .ok (.iload 6, 2) := by decide +kernel
theorem dX5_fits_117 : decode cX5_fits 117 = .ok (.iaload, 1) := by decide +kernel
theorem dX5_fits_118 : decode cX5_fits 118 = .ok (.goto 24, 3) := by decide +kernel
theorem dX5_fits_121 : decode cX5_fits 121 = .ok (.iload 4, 2) := by decide +kernel
theorem dX5_fits_123 : decode cX5_fits 123 = .ok (.iload 6, 2) := by decide +kernel
theorem dX5_fits_125 : decode cX5_fits 125 = .ok (.invokestatic 67, 3) := by decide +kernel
theorem dX5_fits_128 : decode cX5_fits 128 = .ok (.ifCond .eq 10, 3) := by decide +kernel
theorem dX5_fits_131 : decode cX5_fits 131 = .ok (.aload_n 0, 1) := by decide +kernel
theorem dX5_fits_132 : decode cX5_fits 132 = .ok (.getfield 107, 3) := by decide +kernel
theorem dX5_fits_135 : decode cX5_fits 135 = .ok (.goto 7, 3) := by decide +kernel
theorem dX5_fits_138 : decode cX5_fits 138 = .ok (.aload_n 0, 1) := by decide +kernel
theorem dX5_fits_139 : decode cX5_fits 139 = .ok (.getfield 110, 3) := by decide +kernel
theorem dX5_fits_142 : decode cX5_fits 142 = .ok (.iastore, 1) := by decide +kernel
theorem dX5_fits_143 : decode cX5_fits 143 = .ok (.iload 5, 2) := by decide +kernel
theorem dX5_fits_145 : decode cX5_fits 145 = .ok (.aload_n 0, 1) := by decide +kernel
theorem dX5_fits_146 : decode cX5_fits 146 = .ok (.getfield 45, 3) := by decide +kernel
theorem dX5_fits_149 : decode cX5_fits 149 = .ok (.iload 6, 2) := by decide +kernel
theorem dX5_fits_151 : decode cX5_fits 151 = .ok (.iaload, 1) := by decide +kernel
theorem dX5_fits_152 : decode cX5_fits 152 = .ok (.aload_n 0, 1) := by decide +kernel
theorem dX5_fits_153 : decode cX5_fits 153 = .ok (.getfield 48, 3) := by decide +kernel
theorem dX5_fits_156 : decode cX5_fits 156 = .ok (.iload 6, 2) := by decide +kernel
theorem dX5_fits_158 : decode cX5_fits 158 = .ok (.iaload, 1) := by decide +kernel
theorem dX5_fits_159 : decode cX5_fits 159 = .ok (.iconst (-1), 1) := by decide +kernel
theorem dX5_fits_160 : decode cX5_fits 160 = .ok (.ixor, 1) := by decide +kernel
theorem dX5_fits_161 : decode cX5_fits 161 = .ok (.iand, 1) := by decide +kernel
theorem dX5_fits_162 : decode cX5_fits 162 = .ok (.invokestatic 113, 3) := by decide +kernel
theorem dX5_fits_165 : decode cX5_fits 165 = .ok (.iadd, 1) := by decide +kernel
theorem dX5_fits_166 : decode cX5_fits 166 = .ok (.istore 5, 2) := by decide +kernel
theorem dX5_fits_168 : decode cX5_fits 168 = .ok (.iinc 6 1, 3) := by decide +kernel
theorem dX5_fits_171 : decode cX5_fits 171 = .ok (.goto (-101), 3) := by decide +kernel
theorem dX5_fits_174 : decode cX5_fits 174 = .ok (.iload 5, 2) := by decide +kernel
theorem dX5_fits_176 : decode cX5_fits 176 = .ok (.ireturn, 1) := by decide +kernel
set_option maxRecDepth 20000 in
theorem ggX5_maps_X5_rightsOf : GoodIn wsX5_maps wsX5_rightsOf := goodIn_r _ [8, 9, 10, 11, 12, 13, 14, 15, 16, 17, 18, 7, 19, 20, 21, 22, 23, 24, 25, 26, 27, 28, 29, 30, 31, 32, 33, 47, 48, 49, 50, 51, 52, 53, 54, 55, 56, 57, 58, 59, 60, 61, 62, 63, 64, 65, 66] (by decide +kernel) (by decide +kernel)
set_option maxRecDepth 20000 in
theorem gX5_maps_X5_rightsOf : GoodIn wsX5_maps (wsV RX5 94 RX5 yX5_rightsOf wsX5_rightsOf) := goodIn_app (goodIn_of _ (by decide +kernel)) ggX5_maps_X5_rightsOf
set_option maxRecDepth 20000 in
theorem ggX5_maps_X5_fits : GoodIn wsX5_maps wsX5_fits := goodIn_r _ [37, 2, 9, 38, 39, 3, 1, 21, 22, 23, 7, 24, 25, 26, 27, 28, 29, 30, 31, 32, 33, 40, 41, 42, 43, 44, 45, 46, 47, 48, 49, 50, 51, 52, 53, 54, 55, 56, 57, 58, 59, 60, 61, 62, 63, 64, 65, 66] (by decide +kernel) (by decide +kernel)
set_option maxRecDepth 20000 in
theorem gX5_maps_X5_fits : GoodIn wsX5_maps (wsV RX5 116 RX5 yX5_fits wsX5_fits) := goodIn_app (goodIn_of _ (by decide +kernel)) ggX5_maps_X5_fits
set_option maxRecDepth 20000 in
theorem ggX5_maps_X5_size : GoodIn wsX5_maps wsX5_size := goodIn_r _ [46] (by decide +kernel) (by decide +kernel)
set_option maxRecDepth 20000 in
theorem gX5_maps_X5_size : GoodIn wsX5_maps (va_wsS RX5 113 yX5_size wsX5_size) := goodIn_app (goodIn_of _ (by decide +kernel)) ggX5_maps_X5_size
theorem dX5_maps_0 : decode cX5_maps 0 = .ok (.iconst 0, 1) := by decide +kernel
theorem dX5_maps_1 : decode cX5_maps 1 = .ok (.istore_n 3, 1) := by decide +kernel
theorem dX5_maps_2 : decode cX5_maps 2 = .ok (.iload_n 3, 1) := by decide +kernel
theorem dX5_maps_3 : decode cX5_maps 3 = .ok (.bipush 8, 2) := by decide +kernel
theorem dX5_maps_5 : decode cX5_maps 5 = .ok (.if_icmp .ge 21, 3) := by decide +kernel
theorem dX5_maps_8 : decode cX5_maps 8 = .ok (.aload_n 0, 1) := by decide +kernel
theorem dX5_maps_9 : decode cX5_maps 9 = .ok (.getfield 45, 3) := by decide +kernel
theorem dX5_maps_12 : decode cX5_maps 12 = .ok (.iload_n 3, 1) := by decide +kernel
theorem dX5_maps_13 : decode cX5_maps 13 = .ok (.aload_n 0, 1) := by decide +kernel
theorem dX5_maps_14 : decode cX5_maps 14 = .ok (.iload_n 3, 1) := by decide +kernel
theorem dX5_maps_15 : decode cX5_maps 15 = .ok (.iload_n 1, 1) := by decide +kernel
theorem dX5_maps_16 : decode cX5_maps 16 = .ok (.invokevirtual 94, 3) := by decide +kernel
theorem dX5_maps_19 : decode cX5_maps 19 = .ok (.iastore, 1) := by decide +kernel
theorem dX5_maps_20 : decode cX5_maps 20 = .ok (.iinc 3 1, 3) := by decide +kernel
theorem dX5_maps_23 : decode cX5_maps 23 = .ok (.goto (-21), 3) := by decide +kernel
theorem dX5_maps_26 : decode cX5_maps 26 = .ok (.aload_n 0, 1) := by decide +kernel
theorem dX5_maps_27 : decode cX5_maps 27 = .ok (.iconst 0, 1) := by decide +kernel
theorem dX5_maps_28 : decode cX5_maps 28 = .ok (.putfield 101, 3) := by decide +kernel
theorem dX5_maps_31 : decode cX5_maps 31 = .ok (.aload_n 0, 1) := by decide +kernel
theorem dX5_maps_32 : decode cX5_maps 32 = .ok (.iload_n 1, 1) := by decide +kernel
theorem dX5_maps_33 : decode cX5_maps 33 = .ok (.iload_n 2, 1) := by decide +kernel
theorem dX5_maps_34 : decode cX5_maps 34 = .ok (.invokevirtual 116, 3) := by decide +kernel
theorem dX5_maps_37 : decode cX5_maps 37 = .ok (.istore_n 3, 1) := by decide +kernel
theorem dX5_maps_38 : decode cX5_maps 38 = .ok (.iconst 0, 1) := by decide +kernel
theorem dX5_maps_39 : decode cX5_maps 39 = .ok (.istore 4, 2) := by decide +kernel
theorem dX5_maps_41 : decode cX5_maps 41 = .ok (.iload 4, 2) := by decide +kernel
theorem dX5_maps_43 : decode cX5_maps 43 = .ok (.iconst 3, 1) := by decide +kernel
theorem dX5_maps_44 : decode cX5_maps 44 = .ok (.if_icmp .ge 104, 3) := by decide +kernel
theorem dX5_maps_47 : decode cX5_maps 47 = .ok (.iload_n 3, 1) := by decide +kernel
theorem dX5_maps_48 : decode cX5_maps 48 = .ok (.ifCond .le 100, 3) := by decide +kernel
theorem dX5_maps_51 : decode cX5_maps 51 = .ok (.iconst 0, 1) := by decide +kernel
theorem dX5_maps_52 : decode cX5_maps 52 = .ok (.istore 5, 2) := by decide +kernel
theorem dX5_maps_54 : decode cX5_maps 54 = .ok (.iconst 1, 1) := by decide +kernel
theorem dX5_maps_55 : decode cX5_maps 55 = .ok (.istore 6, 2) := by decide +kernel
theorem dX5_maps_57 : decode cX5_maps 57 = .ok (.iload 6, 2) := by decide +kernel
theorem dX5_maps_59 : decode cX5_maps 59 = .ok (.bipush 8, 2) := by decide +kernel
theorem dX5_maps_61 : decode cX5_maps 61 = .ok (.if_icmp .ge 61, 3) := by decide +kernel
theorem dX5_maps_64 : decode cX5_maps 64 = .ok (.aload_n 0, 1) := by decide +kernel
theorem dX5_maps_65 : decode cX5_maps 65 = .ok (.getfield 45, 3) := by decide +kernel
theorem dX5_maps_68 : decode cX5_maps 68 = .ok (.iload 6, 2) := by decide +kernel
theorem dX5_maps_70 : decode cX5_maps 70 = .ok (.iaload, 1) := by decide +kernel
theorem dX5_maps_71 : decode cX5_maps 71 = .ok (.aload_n 0, 1) := by decide +kernel
theorem dX5_maps_72 : decode cX5_maps 72 = .ok (.getfield 48, 3) := by decide +kernel
theorem dX5_maps_75 : decode cX5_maps 75 = .ok (.iload 6, 2) := by decide +kernel
theorem dX5_maps_77 : decode cX5_maps 77 = .ok (.iaload, 1) := by decide +kernel
theorem dX5_maps_78 : decode cX5_maps 78 = .ok (.iconst (-1), 1) := by decide +kernel
theorem dX5_maps_79 : decode cX5_maps 79 = .ok (.ixor, 1) := by decide +kernel
theorem dX5_maps_80 : decode cX5_maps 80 = .ok (.iand, 1) := by decide +kernel
theorem dX5_maps_81 : decode cX5_maps 81 = .ok (.invokestatic 113, 3) := by decide +kernel
theorem dX5_maps_84 : decode cX5_maps 84 = .ok (.aload_n 0, 1) := by decide +kernel
theorem dX5_maps_85 : decode cX5_maps 85 = .ok (.getfield 45, 3) := by decide +kernel
theorem dX5_maps_88 : decode cX5_maps 88 = .ok (.iload 5, 2) := by decide +kernel
theorem dX5_maps_90 : decode cX5_maps 90 = .ok (.iaload, 1) := by decide +kernel
theorem dX5_maps_91 : decode cX5_maps 91 = .ok (.aload_n 0, 1) := by decide +kernel
theorem dX5_maps_92 : decode cX5_maps 92 = .ok (.getfield 48, 3) := by decide +kernel
theorem dX5_maps_95 : decode cX5_maps 95 = .ok (.iload 5, 2) := by decide +kernel
theorem dX5_maps_97 : decode cX5_maps 97 = .ok (.iaload, 1) := by decide +kernel
theorem dX5_maps_98 : decode cX5_maps 98 = .ok (.iconst (-1), 1) := by decide +kernel
theorem dX5_maps_99 : decode cX5_maps 99 = .ok (.ixor, 1) := by decide +kernel
theorem dX5_maps_100 : decode cX5_maps 100 = .ok (.iand, 1) := by decide +kernel
theorem dX5_maps_101 : decode cX5_maps 101 = .ok (.invokestatic 113, 3) := by decide +kernel
theorem dX5_maps_104 : decode cX5_maps 104 = .ok (.if_icmp .le 8, 3) := by decide +kernel
theorem dX5_maps_107 : decode cX5_maps 107 = .ok (.iload 6, 2) := by decide +kernel
theorem dX5_maps_109 : decode cX5_maps 109 = .ok (.goto 5, 3) := by decide +kernel
theorem dX5_maps_112 : decode cX5_maps 112 = .ok (.iload 5, 2) := by decide +kernel
theorem dX5_maps_114 : decode cX5_maps 114 = .ok (.istore 5, 2) := by decide +kernel
theorem dX5_maps_116 : decode cX5_maps 116 = .ok (.iinc 6 1, 3) := by decide +kernel
theorem dX5_maps_119 : decode cX5_maps 119 = .ok (.goto (-62), 3) := by decide +kernel
theorem dX5_maps_122 : decode cX5_maps 122 = .ok (.aload_n 0, 1) := by decide +kernel
theorem dX5_maps_123 : decode cX5_maps 123 = .ok (.dup, 1) := by decide +kernel
theorem dX5_maps_124 : decode cX5_maps 124 = .ok (.getfield 101, 3) := by decide +kernel
theorem dX5_maps_127 : decode cX5_maps 127 = .ok (.iconst 1, 1) := by decide +kernel
theorem dX5_maps_128 : decode cX5_maps 128 = .ok (.iload 5, 2) := by decide +kernel
theorem dX5_maps_130 : decode cX5_maps 130 = .ok (.ishl, 1) := by decide +kernel
theorem dX5_maps_131 : decode cX5_maps 131 = .ok (.ior, 1) := by decide +kernel
theorem dX5_maps_132 : decode cX5_maps 132 = .ok (.putfield 101, 3) := by decide +kernel
theorem dX5_maps_135 : decode cX5_maps 135 = .ok (.aload_n 0, 1) := by decide +kernel
theorem dX5_maps_136 : decode cX5_maps 136 = .ok (.iload_n 1, 1) := by decide +kernel
theorem dX5_maps_137 : decode cX5_maps 137 = .ok (.iload_n 2, 1) := by decide +kernel
theorem dX5_maps_138 : decode cX5_maps 138 = .ok (.invokevirtual 116, 3) := by decide +kernel
theorem dX5_maps_141 : decode cX5_maps 141 = .ok (.istore_n 3, 1) := by decide +kernel
theorem dX5_maps_142 : decode cX5_maps 142 = .ok (.iinc 4 1, 3) := by decide +kernel
theorem dX5_maps_145 : decode cX5_maps 145 = .ok (.goto (-104), 3) := by decide +kernel
theorem dX5_maps_148 : decode cX5_maps 148 = .ok (.iload_n 3, 1) := by decide +kernel
theorem dX5_maps_149 : decode cX5_maps 149 = .ok (.ireturn, 1) := by decide +kernel
set_option maxRecDepth 20000 in
theorem ggX5_mapsBest_X5_maps : GoodIn wsX5_mapsBest wsX5_maps := goodIn_r _ [5, 6, 7, 8, 9, 10, 11, 4, 12, 13, 14, 15, 16, 17, 18, 19, 20, 21, 22, 23, 24, 25, 26, 27, 28, 29, 30, 31, 32, 33, 34, 35, 36, 37, 38, 39, 40, 41, 42, 43, 44, 45, 46, 47, 48, 49, 50, 51, 52, 53, 54, 55, 56, 57, 58, 59, 60, 61, 62, 63, 64, 65, 66, 67, 68, 69, 70] (by decide +kernel) (by decide +kernel)
set_option maxRecDepth 20000 in
theorem gX5_mapsBest_X5_maps : GoodIn wsX5_mapsBest (wsV RX5 119 RX5 yX5_maps wsX5_maps) := goodIn_app (goodIn_of _ (by decide +kernel)) ggX5_mapsBest_X5_maps
theorem dX5_mapsBest_0 : decode cX5_mapsBest 0 = .ok (.iconst (-1), 1) := by decide +kernel
theorem dX5_mapsBest_1 : decode cX5_mapsBest 1 = .ok (.istore_n 2, 1) := by decide +kernel
theorem dX5_mapsBest_2 : decode cX5_mapsBest 2 = .ok (.aload_n 0, 1) := by decide +kernel
theorem dX5_mapsBest_3 : decode cX5_mapsBest 3 = .ok (.iload_n 1, 1) := by decide +kernel
theorem dX5_mapsBest_4 : decode cX5_mapsBest 4 = .ok (.iconst (-1), 1) := by decide +kernel
theorem dX5_mapsBest_5 : decode cX5_mapsBest 5 = .ok (.invokevirtual 119, 3) := by decide +kernel
theorem dX5_mapsBest_8 : decode cX5_mapsBest 8 = .ok (.istore_n 3, 1) := by decide +kernel
theorem dX5_mapsBest_9 : decode cX5_mapsBest 9 = .ok (.iconst 0, 1) := by decide +kernel
theorem dX5_mapsBest_10 : decode cX5_mapsBest 10 = .ok (.istore 4, 2) := by decide +kernel
theorem dX5_mapsBest_12 : decode cX5_mapsBest 12 = .ok (.iload 4, 2) := by decide +kernel
theorem dX5_mapsBest_14 : decode cX5_mapsBest 14 = .ok (.bipush 6, 2) := by decide +kernel
theorem dX5_mapsBest_16 : decode cX5_mapsBest 16 = .ok (.if_icmp .ge 44, 3) := by decide +kernel
theorem dX5_mapsBest_19 : decode cX5_mapsBest 19 = .ok (.aload_n 0, 1) := by decide +kernel
theorem dX5_mapsBest_20 : decode cX5_mapsBest 20 = .ok (.iload_n 1, 1) := by decide +kernel
theorem dX5_mapsBest_21 : decode cX5_mapsBest 21 = .ok (.iload 4, 2) := by decide +kernel
theorem dX5_mapsBest_23 : decode cX5_mapsBest 23 = .ok (.invokevirtual 119, 3) := by decide +kernel
theorem dX5_mapsBest_26 : decode cX5_mapsBest 26 = .ok (.istore 5, 2) := by decide +kernel
theorem dX5_mapsBest_28 : decode cX5_mapsBest 28 = .ok (.iload 5, 2) := by decide +kernel
theorem dX5_mapsBest_30 : decode cX5_mapsBest 30 = .ok (.iload_n 3, 1) := by decide +kernel
theorem dX5_mapsBest_31 : decode cX5_mapsBest 31 = .ok (.if_icmp .ge 8, 3) := by decide +kernel
theorem dX5_mapsBest_34 : decode cX5_mapsBest 34 = .ok (.iload 4, 2) := by decide +kernel
theorem dX5_mapsBest_36 : decode cX5_mapsBest 36 = .ok (.goto 4, 3) := by decide +kernel
theorem dX5_mapsBest_39 : decode cX5_mapsBest 39 = .ok (.iload_n 2, 1) := by decide +kernel
theorem dX5_mapsBest_40 : decode cX5_mapsBest 40 = .ok (.istore_n 2, 1) := by decide +kernel
theorem dX5_mapsBest_41 : decode cX5_mapsBest 41 = .ok (.iload 5, 2) := by decide +kernel
theorem dX5_mapsBest_43 : decode cX5_mapsBest 43 = .ok (.iload_n 3, 1) := by decide +kernel
theorem dX5_mapsBest_44 : decode cX5_mapsBest 44 = .ok (.if_icmp .ge 8, 3) := by decide +kernel
theorem dX5_mapsBest_47 : decode cX5_mapsBest 47 = .ok (.iload 5, 2) := by decide +kernel
theorem dX5_mapsBest_49 : decode cX5_mapsBest 49 = .ok (.goto 4, 3) := by decide +kernel
theorem dX5_mapsBest_52 : decode cX5_mapsBest 52 = .ok (.iload_n 3, 1) := by decide +kernel
theorem dX5_mapsBest_53 : decode cX5_mapsBest 53 = .ok (.istore_n 3, 1) := by decide +kernel
theorem dX5_mapsBest_54 : decode cX5_mapsBest 54 = .ok (.iinc 4 1, 3) := by decide +kernel
theorem dX5_mapsBest_57 : decode cX5_mapsBest 57 = .ok (.goto (-45), 3) := by decide +kernel
theorem dX5_mapsBest_60 : decode cX5_mapsBest 60 = .ok (.aload_n 0, 1) := by decide +kernel
theorem dX5_mapsBest_61 : decode cX5_mapsBest 61 = .ok (.iload_n 1, 1) := by decide +kernel
theorem dX5_mapsBest_62 : decode cX5_mapsBest 62 = .ok (.iload_n 2, 1) := by decide +kernel
theorem dX5_mapsBest_63 : decode cX5_mapsBest 63 = .ok (.invokevirtual 119, 3) := by decide +kernel
theorem dX5_mapsBest_66 : decode cX5_mapsBest 66 = .ok (.pop, 1) := by decide +kernel
theorem dX5_mapsBest_67 : decode cX5_mapsBest 67 = .ok (.iload_n 2, 1) := by decide +kernel
theorem dX5_mapsBest_68 : decode cX5_mapsBest 68 = .ok (.ireturn, 1) := by decide +kernel
set_option maxRecDepth 20000 in
theorem ggX5_groupOf_X5_isFolder : GoodIn wsX5_groupOf wsX5_isFolder := goodIn_r _ [5, 6, 7, 8, 4, 9, 68, 69, 70, 71, 72, 73, 74, 75, 76, 77, 78, 79, 80, 81, 82, 83, 84, 85, 86, 87] (by decide +kernel) (by decide +kernel)
set_option maxRecDepth 20000 in
theorem gX5_groupOf_X5_isFolder : GoodIn wsX5_groupOf (wsV RX5 88 RX5 yX5_isFolder wsX5_isFolder) := goodIn_app (goodIn_of _ (by decide +kernel)) ggX5_groupOf_X5_isFolder
set_option maxRecDepth 20000 in
theorem ggX5_groupOf_X5_isFine : GoodIn wsX5_groupOf wsX5_isFine := goodIn_r _ [13, 14, 68, 69, 70, 71, 72, 73, 74, 75, 76, 77, 78, 79, 80, 81, 82, 83, 84, 85, 86, 87] (by decide +kernel) (by decide +kernel)
set_option maxRecDepth 20000 in
theorem gX5_groupOf_X5_isFine : GoodIn wsX5_groupOf (wsV RX5 82 RX5 yX5_isFine wsX5_isFine) := goodIn_app (goodIn_of _ (by decide +kernel)) ggX5_groupOf_X5_isFine
set_option maxRecDepth 20000 in
theorem ggX5_groupOf_X5_mapsBest : GoodIn wsX5_groupOf wsX5_mapsBest := goodIn_r _ [18, 19, 20, 21, 4, 22, 23, 24, 25, 26, 27, 28, 29, 30, 31, 32, 33, 34, 35, 36, 37, 38, 39, 40, 41, 42, 43, 44, 45, 46, 47, 48, 49, 50, 51, 52, 53, 54, 55, 56, 57, 58, 59, 60, 61, 62, 63, 64, 65, 66, 67, 68, 69, 70, 71, 72, 73, 74, 75, 76, 77, 78, 79, 80, 81, 82, 83, 84, 85, 86, 87] (by decide +kernel) (by decide +kernel)
set_option maxRecDepth 20000 in
theorem gX5_groupOf_X5_mapsBest : GoodIn wsX5_groupOf (wsV RX5 122 RX5 yX5_mapsBest wsX5_mapsBest) := goodIn_app (goodIn_of _ (by decide +kernel)) ggX5_groupOf_X5_mapsBest
theorem dX5_groupOf_0 : decode cX5_groupOf 0 = .ok (.aload_n 0, 1) := by decide +kernel
theorem dX5_groupOf_1 : decode cX5_groupOf 1 = .ok (.aload_n 0, 1) := by decide +kernel
theorem dX5_groupOf_2 : decode cX5_groupOf 2 = .ok (.iload_n 1, 1) := by decide +kernel
theorem dX5_groupOf_3 : decode cX5_groupOf 3 = .ok (.invokevirtual 88, 3) := by decide +kernel
theorem dX5_groupOf_6 : decode cX5_groupOf 6 = .ok (.ifCond .eq 7, 3) := by decide +kernel
theorem dX5_groupOf_9 : decode cX5_groupOf 9 = .ok (.iconst 0, 1) := by decide +kernel
theorem dX5_groupOf_10 : decode cX5_groupOf 10 = .ok (.goto 4, 3) := by decide +kernel
theorem dX5_groupOf_13 : decode cX5_groupOf 13 = .ok (.iconst 1, 1) := by decide +kernel
theorem dX5_groupOf_14 : decode cX5_groupOf 14 = .ok (.invokevirtual 82, 3) := by decide +kernel
theorem dX5_groupOf_17 : decode cX5_groupOf 17 = .ok (.ifCond .eq 11, 3) := by decide +kernel
theorem dX5_groupOf_20 : decode cX5_groupOf 20 = .ok (.aload_n 0, 1) := by decide +kernel
theorem dX5_groupOf_21 : decode cX5_groupOf 21 = .ok (.iload_n 1, 1) := by decide +kernel
theorem dX5_groupOf_22 : decode cX5_groupOf 22 = .ok (.invokevirtual 122, 3) := by decide +kernel
theorem dX5_groupOf_25 : decode cX5_groupOf 25 = .ok (.goto 4, 3) := by decide +kernel
theorem dX5_groupOf_28 : decode cX5_groupOf 28 = .ok (.iconst 0, 1) := by decide +kernel
theorem dX5_groupOf_29 : decode cX5_groupOf 29 = .ok (.ireturn, 1) := by decide +kernel
set_option maxRecDepth 20000 in
theorem ggX5_bits_X5_isFolder : GoodIn wsX5_bits wsX5_isFolder := goodIn_r _ [7, 8, 9, 10, 6, 11, 68, 69, 70, 71, 72, 73, 74, 75, 76, 77, 78, 79, 80, 81, 82, 83, 84, 85, 86, 87] (by decide +kernel) (by decide +kernel)
set_option maxRecDepth 20000 in
theorem gX5_bits_X5_isFolder : GoodIn wsX5_bits (wsV RX5 88 RX5 yX5_isFolder wsX5_isFolder) := goodIn_app (goodIn_of _ (by decide +kernel)) ggX5_bits_X5_isFolder
set_option maxRecDepth 20000 in
theorem ggX5_bits_X5_isFine : GoodIn wsX5_bits wsX5_isFine := goodIn_r _ [15, 16, 68, 69, 70, 71, 72, 73, 74, 75, 76, 77, 78, 79, 80, 81, 82, 83, 84, 85, 86, 87] (by decide +kernel) (by decide +kernel)
set_option maxRecDepth 20000 in
theorem gX5_bits_X5_isFine : GoodIn wsX5_bits (wsV RX5 82 RX5 yX5_isFine wsX5_isFine) := goodIn_app (goodIn_of _ (by decide +kernel)) ggX5_bits_X5_isFine
set_option maxRecDepth 20000 in
theorem ggX5_bits_X5_mapsBest : GoodIn wsX5_bits wsX5_mapsBest := goodIn_r _ [20, 21, 22, 23, 6, 24, 25, 26, 27, 28, 29, 30, 31, 32, 33, 34, 35, 36, 37, 38, 39, 40, 41, 42, 43, 44, 45, 46, 47, 48, 49, 50, 51, 52, 53, 54, 55, 56, 57, 58, 59, 60, 1, 2, 61, 62, 63, 64, 65, 66, 67, 68, 69, 70, 71, 72, 73, 74, 75, 76, 77, 78, 79, 80, 81, 82, 83, 84, 85, 86, 87] (by decide +kernel) (by decide +kernel)
set_option maxRecDepth 20000 in
theorem gX5_bits_X5_mapsBest : GoodIn wsX5_bits (wsV RX5 122 RX5 yX5_mapsBest wsX5_mapsBest) := goodIn_app (goodIn_of _ (by decide +kernel)) ggX5_bits_X5_mapsBest
theorem dX5_bits_0 : decode cX5_bits 0 = .ok (.aload_n 0, 1) := by decide +kernel
theorem dX5_bits_1 : decode cX5_bits 1 = .ok (.aload_n 0, 1) := by decide +kernel
theorem dX5_bits_2 : decode cX5_bits 2 = .ok (.iload_n 1, 1) := by decide +kernel
theorem dX5_bits_3 : decode cX5_bits 3 = .ok (.invokevirtual 88, 3) := by decide +kernel
theorem dX5_bits_6 : decode cX5_bits 6 = .ok (.ifCond .eq 7, 3) := by decide +kernel
theorem dX5_bits_9 : decode cX5_bits 9 = .ok (.iconst 0, 1) := by decide +kernel
theorem dX5_bits_10 : decode cX5_bits 10 = .ok (.goto 4, 3) := by decide +kernel
theorem dX5_bits_13 : decode cX5_bits 13 = .ok (.iconst 1, 1) := by decide +kernel
theorem dX5_bits_14 : decode cX5_bits 14 = .ok (.invokevirtual 82, 3) := by decide +kernel
theorem dX5_bits_17 : decode cX5_bits 17 = .ok (.ifCond .ne 5, 3) := by decide +kernel
theorem dX5_bits_20 : decode cX5_bits 20 = .ok (.iconst 0, 1) := by decide +kernel
theorem dX5_bits_21 : decode cX5_bits 21 = .ok (.ireturn, 1) := by decide +kernel
theorem dX5_bits_22 : decode cX5_bits 22 = .ok (.aload_n 0, 1) := by decide +kernel
theorem dX5_bits_23 : decode cX5_bits 23 = .ok (.iload_n 1, 1) := by decide +kernel
theorem dX5_bits_24 : decode cX5_bits 24 = .ok (.invokevirtual 122, 3) := by decide +kernel
theorem dX5_bits_27 : decode cX5_bits 27 = .ok (.pop, 1) := by decide +kernel
theorem dX5_bits_28 : decode cX5_bits 28 = .ok (.bipush 10, 2) := by decide +kernel
theorem dX5_bits_30 : decode cX5_bits 30 = .ok (.aload_n 0, 1) := by decide +kernel
theorem dX5_bits_31 : decode cX5_bits 31 = .ok (.getfield 107, 3) := by decide +kernel
theorem dX5_bits_34 : decode cX5_bits 34 = .ok (.imul, 1) := by decide +kernel
theorem dX5_bits_35 : decode cX5_bits 35 = .ok (.aload_n 0, 1) := by decide +kernel
theorem dX5_bits_36 : decode cX5_bits 36 = .ok (.getfield 110, 3) := by decide +kernel
theorem dX5_bits_39 : decode cX5_bits 39 = .ok (.iadd, 1) := by decide +kernel
theorem dX5_bits_40 : decode cX5_bits 40 = .ok (.ireturn, 1) := by decide +kernel
set_option maxRecDepth 20000 in
theorem ggX5_named_X5_isFolder : GoodIn wsX5_named wsX5_isFolder := goodIn_r _ [6, 7, 8, 9, 5, 10, 68, 69, 70, 71, 72, 73, 74, 75, 76, 77, 78, 79, 80, 81, 82, 83, 84, 85, 86, 87] (by decide +kernel) (by decide +kernel)
set_option maxRecDepth 20000 in
theorem gX5_named_X5_isFolder : GoodIn wsX5_named (wsV RX5 88 RX5 yX5_isFolder wsX5_isFolder) := goodIn_app (goodIn_of _ (by decide +kernel)) ggX5_named_X5_isFolder
set_option maxRecDepth 20000 in
theorem ggX5_named_X5_isFine : GoodIn wsX5_named wsX5_isFine := goodIn_r _ [14, 15, 68, 69, 70, 71, 72, 73, 74, 75, 76, 77, 78, 79, 80, 81, 82, 83, 84, 85, 86, 87] (by decide +kernel) (by decide +kernel)
set_option maxRecDepth 20000 in
theorem gX5_named_X5_isFine : GoodIn wsX5_named (wsV RX5 82 RX5 yX5_isFine wsX5_isFine) := goodIn_app (goodIn_of _ (by decide +kernel)) ggX5_named_X5_isFine
set_option maxRecDepth 20000 in
theorem ggX5_named_X5_mapsBest : GoodIn wsX5_named wsX5_mapsBest := goodIn_r _ [19, 20, 21, 22, 5, 23, 24, 1, 25, 26, 27, 28, 29, 30, 31, 32, 33, 34, 35, 36, 37, 38, 39, 40, 41, 42, 43, 44, 45, 46, 47, 48, 49, 50, 51, 52, 53, 54, 55, 56, 57, 58, 59, 60, 61, 62, 63, 64, 65, 66, 67, 68, 69, 70, 71, 72, 73, 74, 75, 76, 77, 78, 79, 80, 81, 82, 83, 84, 85, 86, 87] (by decide +kernel) (by decide +kernel)
set_option maxRecDepth 20000 in
theorem gX5_named_X5_mapsBest : GoodIn wsX5_named (wsV RX5 122 RX5 yX5_mapsBest wsX5_mapsBest) := goodIn_app (goodIn_of _ (by decide +kernel)) ggX5_named_X5_mapsBest
theorem dX5_named_0 : decode cX5_named 0 = .ok (.aload_n 0, 1) := by decide +kernel
theorem dX5_named_1 : decode cX5_named 1 = .ok (.aload_n 0, 1) := by decide +kernel
theorem dX5_named_2 : decode cX5_named 2 = .ok (.iload_n 1, 1) := by decide +kernel
theorem dX5_named_3 : decode cX5_named 3 = .ok (.invokevirtual 88, 3) := by decide +kernel
theorem dX5_named_6 : decode cX5_named 6 = .ok (.ifCond .eq 7, 3) := by decide +kernel
theorem dX5_named_9 : decode cX5_named 9 = .ok (.iconst 0, 1) := by decide +kernel
theorem dX5_named_10 : decode cX5_named 10 = .ok (.goto 4, 3) := by decide +kernel
theorem dX5_named_13 : decode cX5_named 13 = .ok (.iconst 1, 1) := by decide +kernel
theorem dX5_named_14 : decode cX5_named 14 = .ok (.invokevirtual 82, 3) := by decide +kernel
theorem dX5_named_17 : decode cX5_named 17 = .ok (.ifCond .ne 5, 3) := by decide +kernel
theorem dX5_named_20 : decode cX5_named 20 = .ok (.iconst 0, 1) := by decide +kernel
theorem dX5_named_21 : decode cX5_named 21 = .ok (.ireturn, 1) := by decide +kernel
theorem dX5_named_22 : decode cX5_named 22 = .ok (.aload_n 0, 1) := by decide +kernel
theorem dX5_named_23 : decode cX5_named 23 = .ok (.iload_n 1, 1) := by decide +kernel
theorem dX5_named_24 : decode cX5_named 24 = .ok (.invokevirtual 122, 3) := by decide +kernel
theorem dX5_named_27 : decode cX5_named 27 = .ok (.pop, 1) := by decide +kernel
theorem dX5_named_28 : decode cX5_named 28 = .ok (.aload_n 0, 1) := by decide +kernel
theorem dX5_named_29 : decode cX5_named 29 = .ok (.getfield 101, 3) := by decide +kernel
theorem dX5_named_32 : decode cX5_named 32 = .ok (.ireturn, 1) := by decide +kernel
set_option maxRecDepth 20000 in
theorem ggX5_mapped_X5_isPerson : GoodIn wsX5_mapped wsX5_isPerson := goodIn_r _ [5, 6, 7, 4, 8] (by decide +kernel) (by decide +kernel)
set_option maxRecDepth 20000 in
theorem gX5_mapped_X5_isPerson : GoodIn wsX5_mapped (va_wsS RX5 79 yX5_isPerson wsX5_isPerson) := goodIn_app (goodIn_of _ (by decide +kernel)) ggX5_mapped_X5_isPerson
set_option maxRecDepth 20000 in
theorem ggX5_mapped_X5_isFolder : GoodIn wsX5_mapped wsX5_isFolder := goodIn_r _ [12, 13, 6, 7, 4, 8, 71, 72, 73, 74, 75, 76, 77, 78, 79, 80, 81, 82, 83, 84, 85, 86, 87, 88, 89, 90] (by decide +kernel) (by decide +kernel)
set_option maxRecDepth 20000 in
theorem gX5_mapped_X5_isFolder : GoodIn wsX5_mapped (wsV RX5 88 RX5 yX5_isFolder wsX5_isFolder) := goodIn_app (goodIn_of _ (by decide +kernel)) ggX5_mapped_X5_isFolder
set_option maxRecDepth 20000 in
theorem ggX5_mapped_X5_isFine : GoodIn wsX5_mapped wsX5_isFine := goodIn_r _ [17, 18, 71, 72, 73, 74, 75, 76, 77, 78, 79, 80, 81, 82, 83, 84, 85, 86, 87, 88, 89, 90] (by decide +kernel) (by decide +kernel)
set_option maxRecDepth 20000 in
theorem gX5_mapped_X5_isFine : GoodIn wsX5_mapped (wsV RX5 82 RX5 yX5_isFine wsX5_isFine) := goodIn_app (goodIn_of _ (by decide +kernel)) ggX5_mapped_X5_isFine
set_option maxRecDepth 20000 in
theorem ggX5_mapped_X5_mapsBest : GoodIn wsX5_mapped wsX5_mapsBest := goodIn_r _ [22, 23, 24, 25, 4, 26, 27, 28, 1, 29, 30, 31, 32, 33, 34, 35, 36, 37, 38, 39, 40, 41, 42, 43, 44, 45, 46, 47, 48, 49, 50, 51, 52, 53, 54, 55, 56, 57, 58, 59, 60, 61, 62, 63, 64, 65, 66, 67, 68, 69, 70, 71, 72, 73, 74, 75, 76, 77, 78, 79, 80, 81, 82, 83, 84, 85, 86, 87, 88, 89, 90] (by decide +kernel) (by decide +kernel)
set_option maxRecDepth 20000 in
theorem gX5_mapped_X5_mapsBest : GoodIn wsX5_mapped (wsV RX5 122 RX5 yX5_mapsBest wsX5_mapsBest) := goodIn_app (goodIn_of _ (by decide +kernel)) ggX5_mapped_X5_mapsBest
theorem dX5_mapped_0 : decode cX5_mapped 0 = .ok (.aload_n 0, 1) := by decide +kernel
theorem dX5_mapped_1 : decode cX5_mapped 1 = .ok (.iload_n 1, 1) := by decide +kernel
theorem dX5_mapped_2 : decode cX5_mapped 2 = .ok (.invokestatic 79, 3) := by decide +kernel
theorem dX5_mapped_5 : decode cX5_mapped 5 = .ok (.ifCond .eq 15, 3) := by decide +kernel
theorem dX5_mapped_8 : decode cX5_mapped 8 = .ok (.aload_n 0, 1) := by decide +kernel
theorem dX5_mapped_9 : decode cX5_mapped 9 = .ok (.iload_n 2, 1) := by decide +kernel
theorem dX5_mapped_10 : decode cX5_mapped 10 = .ok (.invokevirtual 88, 3) := by decide +kernel
theorem dX5_mapped_13 : decode cX5_mapped 13 = .ok (.ifCond .eq 7, 3) := by decide +kernel
theorem dX5_mapped_16 : decode cX5_mapped 16 = .ok (.iconst 0, 1) := by decide +kernel
theorem dX5_mapped_17 : decode cX5_mapped 17 = .ok (.goto 4, 3) := by decide +kernel
theorem dX5_mapped_20 : decode cX5_mapped 20 = .ok (.iconst 1, 1) := by decide +kernel
theorem dX5_mapped_21 : decode cX5_mapped 21 = .ok (.invokevirtual 82, 3) := by decide +kernel
theorem dX5_mapped_24 : decode cX5_mapped 24 = .ok (.ifCond .ne 5, 3) := by decide +kernel
theorem dX5_mapped_27 : decode cX5_mapped 27 = .ok (.iconst 0, 1) := by decide +kernel
theorem dX5_mapped_28 : decode cX5_mapped 28 = .ok (.ireturn, 1) := by decide +kernel
theorem dX5_mapped_29 : decode cX5_mapped 29 = .ok (.aload_n 0, 1) := by decide +kernel
theorem dX5_mapped_30 : decode cX5_mapped 30 = .ok (.iload_n 2, 1) := by decide +kernel
theorem dX5_mapped_31 : decode cX5_mapped 31 = .ok (.invokevirtual 122, 3) := by decide +kernel
theorem dX5_mapped_34 : decode cX5_mapped 34 = .ok (.pop, 1) := by decide +kernel
theorem dX5_mapped_35 : decode cX5_mapped 35 = .ok (.aload_n 0, 1) := by decide +kernel
theorem dX5_mapped_36 : decode cX5_mapped 36 = .ok (.getfield 48, 3) := by decide +kernel
theorem dX5_mapped_39 : decode cX5_mapped 39 = .ok (.iload_n 1, 1) := by decide +kernel
theorem dX5_mapped_40 : decode cX5_mapped 40 = .ok (.iaload, 1) := by decide +kernel
theorem dX5_mapped_41 : decode cX5_mapped 41 = .ok (.ireturn, 1) := by decide +kernel
set_option maxRecDepth 20000 in
theorem ggX5_loss_X5_isFolder : GoodIn wsX5_loss wsX5_isFolder := goodIn_r _ [5, 6, 7, 8, 4, 9, 68, 69, 70, 71, 72, 73, 74, 75, 76, 77, 78, 79, 80, 81, 82, 83, 84, 85, 86, 87] (by decide +kernel) (by decide +kernel)
set_option maxRecDepth 20000 in
theorem gX5_loss_X5_isFolder : GoodIn wsX5_loss (wsV RX5 88 RX5 yX5_isFolder wsX5_isFolder) := goodIn_app (goodIn_of _ (by decide +kernel)) ggX5_loss_X5_isFolder
set_option maxRecDepth 20000 in
theorem ggX5_loss_X5_isFine : GoodIn wsX5_loss wsX5_isFine := goodIn_r _ [13, 14, 68, 69, 70, 71, 72, 73, 74, 75, 76, 77, 78, 79, 80, 81, 82, 83, 84, 85, 86, 87] (by decide +kernel) (by decide +kernel)
set_option maxRecDepth 20000 in
theorem gX5_loss_X5_isFine : GoodIn wsX5_loss (wsV RX5 82 RX5 yX5_isFine wsX5_isFine) := goodIn_app (goodIn_of _ (by decide +kernel)) ggX5_loss_X5_isFine
set_option maxRecDepth 20000 in
theorem ggX5_loss_X5_mapsBest : GoodIn wsX5_loss wsX5_mapsBest := goodIn_r _ [18, 19, 20, 21, 4, 22, 23, 24, 25, 26, 27, 28, 29, 30, 31, 32, 33, 34, 35, 36, 37, 38, 39, 40, 41, 42, 43, 44, 45, 46, 47, 48, 49, 50, 51, 52, 53, 54, 55, 56, 57, 58, 59, 60, 61, 62, 63, 64, 65, 66, 67, 68, 69, 70, 71, 72, 73, 74, 75, 76, 77, 78, 79, 80, 81, 82, 83, 84, 85, 86, 87] (by decide +kernel) (by decide +kernel)
set_option maxRecDepth 20000 in
theorem gX5_loss_X5_mapsBest : GoodIn wsX5_loss (wsV RX5 122 RX5 yX5_mapsBest wsX5_mapsBest) := goodIn_app (goodIn_of _ (by decide +kernel)) ggX5_loss_X5_mapsBest
set_option maxRecDepth 20000 in
theorem ggX5_loss_X5_maps : GoodIn wsX5_loss wsX5_maps := goodIn_r _ [22, 23, 24, 25, 26, 27, 28, 4, 29, 30, 31, 32, 33, 34, 35, 36, 37, 38, 39, 40, 41, 42, 43, 44, 45, 46, 47, 48, 49, 50, 51, 52, 53, 54, 55, 56, 57, 58, 59, 60, 61, 62, 63, 64, 65, 66, 67, 68, 69, 70, 71, 72, 73, 74, 75, 76, 77, 78, 79, 80, 81, 82, 83, 84, 85, 86, 87] (by decide +kernel) (by decide +kernel)
set_option maxRecDepth 20000 in
theorem gX5_loss_X5_maps : GoodIn wsX5_loss (wsV RX5 119 RX5 yX5_maps wsX5_maps) := goodIn_app (goodIn_of _ (by decide +kernel)) ggX5_loss_X5_maps
theorem dX5_loss_0 : decode cX5_loss 0 = .ok (.aload_n 0, 1) := by decide +kernel
theorem dX5_loss_1 : decode cX5_loss 1 = .ok (.aload_n 0, 1) := by decide +kernel
theorem dX5_loss_2 : decode cX5_loss 2 = .ok (.iload_n 1, 1) := by decide +kernel
theorem dX5_loss_3 : decode cX5_loss 3 = .ok (.invokevirtual 88, 3) := by decide +kernel
theorem dX5_loss_6 : decode cX5_loss 6 = .ok (.ifCond .eq 7, 3) := by decide +kernel
theorem dX5_loss_9 : decode cX5_loss 9 = .ok (.iconst 0, 1) := by decide +kernel
theorem dX5_loss_10 : decode cX5_loss 10 = .ok (.goto 4, 3) := by decide +kernel
theorem dX5_loss_13 : decode cX5_loss 13 = .ok (.iconst 1, 1) := by decide +kernel
theorem dX5_loss_14 : decode cX5_loss 14 = .ok (.invokevirtual 82, 3) := by decide +kernel
theorem dX5_loss_17 : decode cX5_loss 17 = .ok (.ifCond .eq 16, 3) := by decide +kernel
theorem dX5_loss_20 : decode cX5_loss 20 = .ok (.aload_n 0, 1) := by decide +kernel
theorem dX5_loss_21 : decode cX5_loss 21 = .ok (.iload_n 1, 1) := by decide +kernel
theorem dX5_loss_22 : decode cX5_loss 22 = .ok (.aload_n 0, 1) := by decide +kernel
theorem dX5_loss_23 : decode cX5_loss 23 = .ok (.iload_n 1, 1) := by decide +kernel
theorem dX5_loss_24 : decode cX5_loss 24 = .ok (.invokevirtual 122, 3) := by decide +kernel
theorem dX5_loss_27 : decode cX5_loss 27 = .ok (.invokevirtual 119, 3) := by decide +kernel
theorem dX5_loss_30 : decode cX5_loss 30 = .ok (.goto 4, 3) := by decide +kernel
theorem dX5_loss_33 : decode cX5_loss 33 = .ok (.iconst 0, 1) := by decide +kernel
theorem dX5_loss_34 : decode cX5_loss 34 = .ok (.ireturn, 1) := by decide +kernel
set_option maxRecDepth 20000 in
theorem ggX5_lossWith_X5_isFolder : GoodIn wsX5_lossWith wsX5_isFolder := goodIn_r _ [5, 6, 7, 8, 4, 9, 64, 65, 66, 67, 68, 69, 70, 71, 72, 73, 74, 75, 76, 77, 78, 79, 80, 81, 82, 83] (by decide +kernel) (by decide +kernel)
set_option maxRecDepth 20000 in
theorem gX5_lossWith_X5_isFolder : GoodIn wsX5_lossWith (wsV RX5 88 RX5 yX5_isFolder wsX5_isFolder) := goodIn_app (goodIn_of _ (by decide +kernel)) ggX5_lossWith_X5_isFolder
set_option maxRecDepth 20000 in
theorem ggX5_lossWith_X5_in : GoodIn wsX5_lossWith wsX5_in := goodIn_r _ [9] (by decide +kernel) (by decide +kernel)
set_option maxRecDepth 20000 in
theorem gX5_lossWith_X5_in : GoodIn wsX5_lossWith (va_wsS RX5 63 yX5_in wsX5_in) := goodIn_app (goodIn_of _ (by decide +kernel)) ggX5_lossWith_X5_in
set_option maxRecDepth 20000 in
theorem ggX5_lossWith_X5_isFine : GoodIn wsX5_lossWith wsX5_isFine := goodIn_r _ [13, 14, 64, 65, 66, 67, 68, 69, 70, 71, 72, 73, 74, 75, 76, 77, 78, 79, 80, 81, 82, 83] (by decide +kernel) (by decide +kernel)
set_option maxRecDepth 20000 in
theorem gX5_lossWith_X5_isFine : GoodIn wsX5_lossWith (wsV RX5 82 RX5 yX5_isFine wsX5_isFine) := goodIn_app (goodIn_of _ (by decide +kernel)) ggX5_lossWith_X5_isFine
set_option maxRecDepth 20000 in
theorem ggX5_lossWith_X5_maps : GoodIn wsX5_lossWith wsX5_maps := goodIn_r _ [18, 19, 20, 21, 22, 23, 24, 4, 25, 26, 27, 28, 29, 30, 31, 32, 33, 34, 35, 36, 37, 38, 39, 40, 41, 42, 43, 44, 45, 46, 47, 48, 49, 50, 51, 52, 53, 54, 55, 56, 57, 58, 59, 60, 61, 62, 63, 64, 65, 66, 67, 68, 69, 70, 71, 72, 73, 74, 75, 76, 77, 78, 79, 80, 81, 82, 83] (by decide +kernel) (by decide +kernel)
set_option maxRecDepth 20000 in
theorem gX5_lossWith_X5_maps : GoodIn wsX5_lossWith (wsV RX5 119 RX5 yX5_maps wsX5_maps) := goodIn_app (goodIn_of _ (by decide +kernel)) ggX5_lossWith_X5_maps
theorem dX5_lossWith_0 : decode cX5_lossWith 0 = .ok (.aload_n 0, 1) := by decide +kernel
theorem dX5_lossWith_1 : decode cX5_lossWith 1 = .ok (.aload_n 0, 1) := by decide +kernel
theorem dX5_lossWith_2 : decode cX5_lossWith 2 = .ok (.iload_n 1, 1) := by decide +kernel
theorem dX5_lossWith_3 : decode cX5_lossWith 3 = .ok (.invokevirtual 88, 3) := by decide +kernel
theorem dX5_lossWith_6 : decode cX5_lossWith 6 = .ok (.ifCond .eq 16, 3) := by decide +kernel
theorem dX5_lossWith_9 : decode cX5_lossWith 9 = .ok (.iload_n 2, 1) := by decide +kernel
theorem dX5_lossWith_10 : decode cX5_lossWith 10 = .ok (.iconst (-1), 1) := by decide +kernel
theorem dX5_lossWith_11 : decode cX5_lossWith 11 = .ok (.iconst 5, 1) := by decide +kernel
theorem dX5_lossWith_12 : decode cX5_lossWith 12 = .ok (.invokestatic 63, 3) := by decide +kernel
theorem dX5_lossWith_15 : decode cX5_lossWith 15 = .ok (.ifCond .eq 7, 3) := by decide +kernel
theorem dX5_lossWith_18 : decode cX5_lossWith 18 = .ok (.iconst 0, 1) := by decide +kernel
theorem dX5_lossWith_19 : decode cX5_lossWith 19 = .ok (.goto 4, 3) := by decide +kernel
theorem dX5_lossWith_22 : decode cX5_lossWith 22 = .ok (.iconst 1, 1) := by decide +kernel
theorem dX5_lossWith_23 : decode cX5_lossWith 23 = .ok (.invokevirtual 82, 3) := by decide +kernel
theorem dX5_lossWith_26 : decode cX5_lossWith 26 = .ok (.ifCond .eq 12, 3) := by decide +kernel
theorem dX5_lossWith_29 : decode cX5_lossWith 29 = .ok (.aload_n 0, 1) := by decide +kernel
theorem dX5_lossWith_30 : decode cX5_lossWith 30 = .ok (.iload_n 1, 1) := by decide +kernel
theorem dX5_lossWith_31 : decode cX5_lossWith 31 = .ok (.iload_n 2, 1) := by decide +kernel
theorem dX5_lossWith_32 : decode cX5_lossWith 32 = .ok (.invokevirtual 119, 3) := by decide +kernel
theorem dX5_lossWith_35 : decode cX5_lossWith 35 = .ok (.goto 4, 3) := by decide +kernel
theorem dX5_lossWith_38 : decode cX5_lossWith 38 = .ok (.iconst 0, 1) := by decide +kernel
theorem dX5_lossWith_39 : decode cX5_lossWith 39 = .ok (.ireturn, 1) := by decide +kernel
set_option maxRecDepth 20000 in
theorem ggX5_pass_X5_mapsBest : GoodIn wsX5_pass wsX5_mapsBest := goodIn_r _ [10, 11, 12, 13, 9, 14, 15, 16, 5, 17, 18, 19, 20, 21, 22, 23, 24, 25, 26, 27, 28, 29, 30, 31, 32, 33, 34, 35, 36, 37, 38, 39, 40, 41, 42, 43, 44, 45, 46, 47, 48, 49, 50, 51, 52, 53, 54, 55, 56, 57, 58, 59, 60, 61, 62, 63, 64, 65, 66, 67, 68, 69, 70, 71, 72, 73, 74, 75, 76, 77, 78] (by decide +kernel) (by decide +kernel)
set_option maxRecDepth 20000 in
theorem gX5_pass_X5_mapsBest : GoodIn wsX5_pass (wsV RX5 122 RX5 yX5_mapsBest wsX5_mapsBest) := goodIn_app (goodIn_of _ (by decide +kernel)) ggX5_pass_X5_mapsBest
theorem dX5_pass_0 : decode cX5_pass 0 = .ok (.aload_n 0, 1) := by decide +kernel
theorem dX5_pass_1 : decode cX5_pass 1 = .ok (.iconst 0, 1) := by decide +kernel
theorem dX5_pass_2 : decode cX5_pass 2 = .ok (.putfield 60, 3) := by decide +kernel
theorem dX5_pass_5 : decode cX5_pass 5 = .ok (.iconst 0, 1) := by decide +kernel
theorem dX5_pass_6 : decode cX5_pass 6 = .ok (.istore_n 1, 1) := by decide +kernel
theorem dX5_pass_7 : decode cX5_pass 7 = .ok (.iconst 0, 1) := by decide +kernel
theorem dX5_pass_8 : decode cX5_pass 8 = .ok (.istore_n 2, 1) := by decide +kernel
theorem dX5_pass_9 : decode cX5_pass 9 = .ok (.iload_n 2, 1) := by decide +kernel
theorem dX5_pass_10 : decode cX5_pass 10 = .ok (.aload_n 0, 1) := by decide +kernel
theorem dX5_pass_11 : decode cX5_pass 11 = .ok (.getfield 29, 3) := by decide +kernel
theorem dX5_pass_14 : decode cX5_pass 14 = .ok (.if_icmp .ge 116, 3) := by decide +kernel
theorem dX5_pass_17 : decode cX5_pass 17 = .ok (.aload_n 0, 1) := by decide +kernel
theorem dX5_pass_18 : decode cX5_pass 18 = .ok (.iload_n 2, 1) := by decide +kernel
theorem dX5_pass_19 : decode cX5_pass 19 = .ok (.invokevirtual 122, 3) := by decide +kernel
theorem dX5_pass_22 : decode cX5_pass 22 = .ok (.pop, 1) := by decide +kernel
theorem dX5_pass_23 : decode cX5_pass 23 = .ok (.aload_n 0, 1) := by decide +kernel
theorem dX5_pass_24 : decode cX5_pass 24 = .ok (.getfield 51, 3) := by decide +kernel
theorem dX5_pass_27 : decode cX5_pass 27 = .ok (.iload_n 2, 1) := by decide +kernel
theorem dX5_pass_28 : decode cX5_pass 28 = .ok (.baload, 1) := by decide +kernel
theorem dX5_pass_29 : decode cX5_pass 29 = .ok (.ifCond .ne 7, 3) := by decide +kernel
theorem dX5_pass_32 : decode cX5_pass 32 = .ok (.iconst 1, 1) := by decide +kernel
theorem dX5_pass_33 : decode cX5_pass 33 = .ok (.goto 4, 3) := by decide +kernel
theorem dX5_pass_36 : decode cX5_pass 36 = .ok (.iconst 0, 1) := by decide +kernel
theorem dX5_pass_37 : decode cX5_pass 37 = .ok (.istore_n 3, 1) := by decide +kernel
theorem dX5_pass_38 : decode cX5_pass 38 = .ok (.iconst 0, 1) := by decide +kernel
theorem dX5_pass_39 : decode cX5_pass 39 = .ok (.istore 4, 2) := by decide +kernel
theorem dX5_pass_41 : decode cX5_pass 41 = .ok (.iload 4, 2) := by decide +kernel
theorem dX5_pass_43 : decode cX5_pass 43 = .ok (.bipush 8, 2) := by decide +kernel
theorem dX5_pass_45 : decode cX5_pass 45 = .ok (.if_icmp .ge 60, 3) := by decide +kernel
theorem dX5_pass_48 : decode cX5_pass 48 = .ok (.iload_n 3, 1) := by decide +kernel
theorem dX5_pass_49 : decode cX5_pass 49 = .ok (.ifCond .ne 25, 3) := by decide +kernel
theorem dX5_pass_52 : decode cX5_pass 52 = .ok (.aload_n 0, 1) := by decide +kernel
theorem dX5_pass_53 : decode cX5_pass 53 = .ok (.getfield 54, 3) := by decide +kernel
theorem dX5_pass_56 : decode cX5_pass 56 = .ok (.bipush 8, 2) := by decide +kernel
theorem dX5_pass_58 : decode cX5_pass 58 = .ok (.iload_n 2, 1) := by decide +kernel
theorem dX5_pass_59 : decode cX5_pass 59 = .ok (.imul, 1) := by decide +kernel
theorem dX5_pass_60 : decode cX5_pass 60 = .ok (.iload 4, 2) := by decide +kernel
theorem dX5_pass_62 : decode cX5_pass 62 = .ok (.iadd, 1) := by decide +kernel
theorem dX5_pass_63 : decode cX5_pass 63 = .ok (.iaload, 1) := by decide +kernel
theorem dX5_pass_64 : decode cX5_pass 64 = .ok (.aload_n 0, 1) := by decide +kernel
theorem dX5_pass_65 : decode cX5_pass 65 = .ok (.getfield 48, 3) := by decide +kernel
theorem dX5_pass_68 : decode cX5_pass 68 = .ok (.iload 4, 2) := by decide +kernel
theorem dX5_pass_70 : decode cX5_pass 70 = .ok (.iaload, 1) := by decide +kernel
theorem dX5_pass_71 : decode cX5_pass 71 = .ok (.if_icmp .eq 7, 3) := by decide +kernel
theorem dX5_pass_74 : decode cX5_pass 74 = .ok (.iconst 1, 1) := by decide +kernel
theorem dX5_pass_75 : decode cX5_pass 75 = .ok (.goto 4, 3) := by decide +kernel
theorem dX5_pass_78 : decode cX5_pass 78 = .ok (.iconst 0, 1) := by decide +kernel
theorem dX5_pass_79 : decode cX5_pass 79 = .ok (.istore_n 3, 1) := by decide +kernel
theorem dX5_pass_80 : decode cX5_pass 80 = .ok (.aload_n 0, 1) := by decide +kernel
theorem dX5_pass_81 : decode cX5_pass 81 = .ok (.getfield 54, 3) := by decide +kernel
theorem dX5_pass_84 : decode cX5_pass 84 = .ok (.bipush 8, 2) := by decide +kernel
theorem dX5_pass_86 : decode cX5_pass 86 = .ok (.iload_n 2, 1) := by decide +kernel
theorem dX5_pass_87 : decode cX5_pass 87 = .ok (.imul, 1) := by decide +kernel
theorem dX5_pass_88 : decode cX5_pass 88 = .ok (.iload 4, 2) := by decide +kernel
theorem dX5_pass_90 : decode cX5_pass 90 = .ok (.iadd, 1) := by decide +kernel
theorem dX5_pass_91 : decode cX5_pass 91 = .ok (.aload_n 0, 1) := by decide +kernel
theorem dX5_pass_92 : decode cX5_pass 92 = .ok (.getfield 48, 3) := by decide +kernel
theorem dX5_pass_95 : decode cX5_pass 95 = .ok (.iload 4, 2) := by decide +kernel
theorem dX5_pass_97 : decode cX5_pass 97 = .ok (.iaload, 1) := by decide +kernel
theorem dX5_pass_98 : decode cX5_pass 98 = .ok (.iastore, 1) := by decide +kernel
theorem dX5_pass_99 : decode cX5_pass 99 = .ok (.iinc 4 1, 3) := by decide +kernel
theorem dX5_pass_102 : decode cX5_pass 102 = .ok (.goto (-61), 3) := by decide +kernel
theorem dX5_pass_105 : decode cX5_pass 105 = .ok (.aload_n 0, 1) := by decide +kernel
theorem dX5_pass_106 : decode cX5_pass 106 = .ok (.getfield 51, 3) := by decide +kernel
theorem dX5_pass_109 : decode cX5_pass 109 = .ok (.iload_n 2, 1) := by decide +kernel
theorem dX5_pass_110 : decode cX5_pass 110 = .ok (.iconst 1, 1) := by decide +kernel
theorem dX5_pass_111 : decode cX5_pass 111 = .ok (.bastore, 1) := by decide +kernel
theorem dX5_pass_112 : decode cX5_pass 112 = .ok (.iload_n 1, 1) := by decide +kernel
theorem dX5_pass_113 : decode cX5_pass 113 = .ok (.iload_n 3, 1) := by decide +kernel
theorem dX5_pass_114 : decode cX5_pass 114 = .ok (.ifCond .eq 7, 3) := by decide +kernel
theorem dX5_pass_117 : decode cX5_pass 117 = .ok (.iconst 1, 1) := by decide +kernel
theorem dX5_pass_118 : decode cX5_pass 118 = .ok (.goto 4, 3) := by decide +kernel
theorem dX5_pass_121 : decode cX5_pass 121 = .ok (.iconst 0, 1) := by decide +kernel
theorem dX5_pass_122 : decode cX5_pass 122 = .ok (.iadd, 1) := by decide +kernel
theorem dX5_pass_123 : decode cX5_pass 123 = .ok (.istore_n 1, 1) := by decide +kernel
theorem dX5_pass_124 : decode cX5_pass 124 = .ok (.iinc 2 1, 3) := by decide +kernel
theorem dX5_pass_127 : decode cX5_pass 127 = .ok (.goto (-118), 3) := by decide +kernel
theorem dX5_pass_130 : decode cX5_pass 130 = .ok (.iload_n 1, 1) := by decide +kernel
theorem dX5_pass_131 : decode cX5_pass 131 = .ok (.ireturn, 1) := by decide +kernel
set_option maxRecDepth 20000 in
theorem ggX5_isFresh_X5_isFolder : GoodIn wsX5_isFresh wsX5_isFolder := goodIn_r _ [8, 9, 10, 11, 7, 12, 70, 71, 72, 73, 74, 75, 76, 77, 78, 79, 80, 81, 82, 83, 84, 85, 86, 87, 88, 89] (by decide +kernel) (by decide +kernel)
set_option maxRecDepth 20000 in
theorem gX5_isFresh_X5_isFolder : GoodIn wsX5_isFresh (wsV RX5 88 RX5 yX5_isFolder wsX5_isFolder) := goodIn_app (goodIn_of _ (by decide +kernel)) ggX5_isFresh_X5_isFolder
set_option maxRecDepth 20000 in
theorem ggX5_isFresh_X5_isFine : GoodIn wsX5_isFresh wsX5_isFine := goodIn_r _ [16, 17, 70, 71, 72, 73, 74, 75, 76, 77, 78, 79, 80, 81, 82, 83, 84, 85, 86, 87, 88, 89] (by decide +kernel) (by decide +kernel)
set_option maxRecDepth 20000 in
theorem gX5_isFresh_X5_isFine : GoodIn wsX5_isFresh (wsV RX5 82 RX5 yX5_isFine wsX5_isFine) := goodIn_app (goodIn_of _ (by decide +kernel)) ggX5_isFresh_X5_isFine
set_option maxRecDepth 20000 in
theorem ggX5_isFresh_X5_mapsBest : GoodIn wsX5_isFresh wsX5_mapsBest := goodIn_r _ [21, 22, 23, 24, 7, 25, 26, 27, 3, 28, 29, 30, 31, 32, 33, 34, 35, 36, 37, 38, 39, 40, 41, 42, 43, 44, 45, 46, 47, 48, 49, 50, 51, 52, 53, 54, 55, 56, 57, 58, 59, 60, 61, 62, 63, 64, 65, 66, 67, 68, 69, 70, 71, 72, 73, 74, 75, 76, 77, 78, 79, 80, 81, 82, 83, 84, 85, 86, 87, 88, 89] (by decide +kernel) (by decide +kernel)
set_option maxRecDepth 20000 in
theorem gX5_isFresh_X5_mapsBest : GoodIn wsX5_isFresh (wsV RX5 122 RX5 yX5_mapsBest wsX5_mapsBest) := goodIn_app (goodIn_of _ (by decide +kernel)) ggX5_isFresh_X5_mapsBest
theorem dX5_isFresh_0 : decode cX5_isFresh 0 = .ok (.aload_n 0, 1) := by decide +kernel
theorem dX5_isFresh_1 : decode cX5_isFresh 1 = .ok (.aload_n 0, 1) := by decide +kernel
theorem dX5_isFresh_2 : decode cX5_isFresh 2 = .ok (.iload_n 1, 1) := by decide +kernel
theorem dX5_isFresh_3 : decode cX5_isFresh 3 = .ok (.invokevirtual 88, 3) := by decide +kernel
theorem dX5_isFresh_6 : decode cX5_isFresh 6 = .ok (.ifCond .eq 7, 3) := by decide +kernel
theorem dX5_isFresh_9 : decode cX5_isFresh 9 = .ok (.iconst 0, 1) := by decide +kernel
theorem dX5_isFresh_10 : decode cX5_isFresh 10 = .ok (.goto 4, 3) := by decide +kernel
theorem dX5_isFresh_13 : decode cX5_isFresh 13 = .ok (.iconst 1, 1) := by decide +kernel
theorem dX5_isFresh_14 : decode cX5_isFresh 14 = .ok (.invokevirtual 82, 3) := by decide +kernel
theorem dX5_isFresh_17 : decode cX5_isFresh 17 = .ok (.ifCond .ne 5, 3) := by decide +kernel
theorem dX5_isFresh_20 : decode cX5_isFresh 20 = .ok (.iconst 0, 1) := by decide +kernel
theorem dX5_isFresh_21 : decode cX5_isFresh 21 = .ok (.ireturn, 1) := by decide +kernel
theorem dX5_isFresh_22 : decode cX5_isFresh 22 = .ok (.aload_n 0, 1) := by decide +kernel
theorem dX5_isFresh_23 : decode cX5_isFresh 23 = .ok (.iload_n 1, 1) := by decide +kernel
theorem dX5_isFresh_24 : decode cX5_isFresh 24 = .ok (.invokevirtual 122, 3) := by decide +kernel
theorem dX5_isFresh_27 : decode cX5_isFresh 27 = .ok (.pop, 1) := by decide +kernel
theorem dX5_isFresh_28 : decode cX5_isFresh 28 = .ok (.aload_n 0, 1) := by decide +kernel
theorem dX5_isFresh_29 : decode cX5_isFresh 29 = .ok (.getfield 51, 3) := by decide +kernel
theorem dX5_isFresh_32 : decode cX5_isFresh 32 = .ok (.iload_n 1, 1) := by decide +kernel
theorem dX5_isFresh_33 : decode cX5_isFresh 33 = .ok (.baload, 1) := by decide +kernel
theorem dX5_isFresh_34 : decode cX5_isFresh 34 = .ok (.istore_n 2, 1) := by decide +kernel
theorem dX5_isFresh_35 : decode cX5_isFresh 35 = .ok (.iconst 0, 1) := by decide +kernel
theorem dX5_isFresh_36 : decode cX5_isFresh 36 = .ok (.istore_n 3, 1) := by decide +kernel
theorem dX5_isFresh_37 : decode cX5_isFresh 37 = .ok (.iload_n 3, 1) := by decide +kernel
theorem dX5_isFresh_38 : decode cX5_isFresh 38 = .ok (.bipush 8, 2) := by decide +kernel
theorem dX5_isFresh_40 : decode cX5_isFresh 40 = .ok (.if_icmp .ge 39, 3) := by decide +kernel
theorem dX5_isFresh_43 : decode cX5_isFresh 43 = .ok (.iload_n 2, 1) := by decide +kernel
theorem dX5_isFresh_44 : decode cX5_isFresh 44 = .ok (.ifCond .eq 27, 3) := by decide +kernel
theorem dX5_isFresh_47 : decode cX5_isFresh 47 = .ok (.aload_n 0, 1) := by decide +kernel
theorem dX5_isFresh_48 : decode cX5_isFresh 48 = .ok (.getfield 54, 3) := by decide +kernel
theorem dX5_isFresh_51 : decode cX5_isFresh 51 = .ok (.bipush 8, 2) := by decide +kernel
theorem dX5_isFresh_53 : decode cX5_isFresh 53 = .ok (.iload_n 1, 1) := by decide +kernel
theorem dX5_isFresh_54 : decode cX5_isFresh 54 = .ok (.imul, 1) := by decide +kernel
theorem dX5_isFresh_55 : decode cX5_isFresh 55 = .ok (.iload_n 3, 1) := by decide +kernel
theorem dX5_isFresh_56 : decode cX5_isFresh 56 = .ok (.iadd, 1) := by decide +kernel
theorem dX5_isFresh_57 : decode cX5_isFresh 57 = .ok (.iaload, 1) := by decide +kernel
theorem dX5_isFresh_58 : decode cX5_isFresh 58 = .ok (.aload_n 0, 1) := by decide +kernel
theorem dX5_isFresh_59 : decode cX5_isFresh 59 = .ok (.getfield 48, 3) := by decide +kernel
theorem dX5_isFresh_62 : decode cX5_isFresh 62 = .ok (.iload_n 3, 1) := by decide +kernel
theorem dX5_isFresh_63 : decode cX5_isFresh 63 = .ok (.iaload, 1) := by decide +kernel
theorem dX5_isFresh_64 : decode cX5_isFresh 64 = .ok (.if_icmp .ne 7, 3) := by decide +kernel
theorem dX5_isFresh_67 : decode cX5_isFresh 67 = .ok (.iconst 1, 1) := by decide +kernel
theorem dX5_isFresh_68 : decode cX5_isFresh 68 = .ok (.goto 4, 3) := by decide +kernel
theorem dX5_isFresh_71 : decode cX5_isFresh 71 = .ok (.iconst 0, 1) := by decide +kernel
theorem dX5_isFresh_72 : decode cX5_isFresh 72 = .ok (.istore_n 2, 1) := by decide +kernel
theorem dX5_isFresh_73 : decode cX5_isFresh 73 = .ok (.iinc 3 1, 3) := by decide +kernel
theorem dX5_isFresh_76 : decode cX5_isFresh 76 = .ok (.goto (-39), 3) := by decide +kernel
theorem dX5_isFresh_79 : decode cX5_isFresh 79 = .ok (.iload_n 2, 1) := by decide +kernel
theorem dX5_isFresh_80 : decode cX5_isFresh 80 = .ok (.ireturn, 1) := by decide +kernel
set_option maxRecDepth 20000 in
theorem ggX5_turn_X5_isFolder : GoodIn wsX5_turn wsX5_isFolder := goodIn_r _ [7, 8, 9, 10, 6, 11, 17, 18, 19, 20, 21, 22, 23, 24, 25, 26, 27, 28, 29, 30, 31, 32, 33, 34, 35, 36] (by decide +kernel) (by decide +kernel)
set_option maxRecDepth 20000 in
theorem gX5_turn_X5_isFolder : GoodIn wsX5_turn (wsV RX5 88 RX5 yX5_isFolder wsX5_isFolder) := goodIn_app (goodIn_of _ (by decide +kernel)) ggX5_turn_X5_isFolder
set_option maxRecDepth 20000 in
theorem ggX5_turn_X5_isFine : GoodIn wsX5_turn wsX5_isFine := goodIn_r _ [15, 16, 17, 18, 19, 20, 21, 22, 23, 24, 25, 26, 27, 28, 29, 30, 31, 32, 33, 34, 35, 36] (by decide +kernel) (by decide +kernel)
set_option maxRecDepth 20000 in
theorem gX5_turn_X5_isFine : GoodIn wsX5_turn (wsV RX5 82 RX5 yX5_isFine wsX5_isFine) := goodIn_app (goodIn_of _ (by decide +kernel)) ggX5_turn_X5_isFine
