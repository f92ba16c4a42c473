theorem dL_told_0 : decode cL_told 0 = .ok (.iload_n 1, 1) := by decide +kernel
theorem dL_told_1 : decode cL_told 1 = .ok (.aload_n 0, 1) := by decide +kernel
theorem dL_told_2 : decode cL_told 2 = .ok (.arraylength, 1) := by decide +kernel
theorem dL_told_3 : decode cL_told 3 = .ok (.if_icmp .ge 9, 3) := by decide +kernel
theorem dL_told_6 : decode cL_told 6 = .ok (.aload_n 0, 1) := by decide +kernel
theorem dL_told_7 : decode cL_told 7 = .ok (.iload_n 1, 1) := by decide +kernel
theorem dL_told_8 : decode cL_told 8 = .ok (.iaload, 1) := by decide +kernel
theorem dL_told_9 : decode cL_told 9 = .ok (.goto 14, 3) := by decide +kernel
theorem dL_told_12 : decode cL_told 12 = .ok (.ldc 7, 2) := by decide +kernel
theorem dL_told_14 : decode cL_told 14 = .ok (.iload_n 1, 1) := by decide +kernel
theorem dL_told_15 : decode cL_told 15 = .ok (.iconst 3, 1) := by decide +kernel
theorem dL_told_16 : decode cL_told 16 = .ok (.iadd, 1) := by decide +kernel
theorem dL_told_17 : decode cL_told 17 = .ok (.imul, 1) := by decide +kernel
theorem dL_told_18 : decode cL_told 18 = .ok (.iload_n 1, 1) := by decide +kernel
theorem dL_told_19 : decode cL_told 19 = .ok (.bipush 8, 2) := by decide +kernel
theorem dL_told_21 : decode cL_told 21 = .ok (.iadd, 1) := by decide +kernel
theorem dL_told_22 : decode cL_told 22 = .ok (.imul, 1) := by decide +kernel
theorem dL_told_23 : decode cL_told 23 = .ok (.ldc 8, 2) := by decide +kernel
theorem dL_told_25 : decode cL_told 25 = .ok (.iand, 1) := by decide +kernel
theorem dL_told_26 : decode cL_told 26 = .ok (.ireturn, 1) := by decide +kernel
theorem dL_size_0 : decode cL_size 0 = .ok (.iconst 0, 1) := by decide +kernel
theorem dL_size_1 : decode cL_size 1 = .ok (.istore_n 1, 1) := by decide +kernel
theorem dL_size_2 : decode cL_size 2 = .ok (.iconst 0, 1) := by decide +kernel
theorem dL_size_3 : decode cL_size 3 = .ok (.istore_n 2, 1) := by decide +kernel
theorem dL_size_4 : decode cL_size 4 = .ok (.iload_n 2, 1) := by decide +kernel
theorem dL_size_5 : decode cL_size 5 = .ok (.bipush 8, 2) := by decide +kernel
theorem dL_size_7 : decode cL_size 7 = .ok (.if_icmp .ge 17, 3) := by decide +kernel
theorem dL_size_10 : decode cL_size 10 = .ok (.iload_n 1, 1) := by decide +kernel
theorem dL_size_11 : decode cL_size 11 = .ok (.iload_n 0, 1) := by decide +kernel
theorem dL_size_12 : decode cL_size 12 = .ok (.iload_n 2, 1) := by decide +kernel
theorem dL_size_13 : decode cL_size 13 = .ok (.ishr, 1) := by decide +kernel
theorem dL_size_14 : decode cL_size 14 = .ok (.iconst 1, 1) := by decide +kernel
theorem dL_size_15 : decode cL_size 15 = .ok (.iand, 1) := by decide +kernel
theorem dL_size_16 : decode cL_size 16 = .ok (.iadd, 1) := by decide +kernel
theorem dL_size_17 : decode cL_size 17 = .ok (.istore_n 1, 1) := by decide +kernel
theorem dL_size_18 : decode cL_size 18 = .ok (.iinc 2 1, 3) := by decide +kernel
theorem dL_size_21 : decode cL_size 21 = .ok (.goto (-17), 3) := by decide +kernel
theorem dL_size_24 : decode cL_size 24 = .ok (.iload_n 1, 1) := by decide +kernel
theorem dL_size_25 : decode cL_size 25 = .ok (.ireturn, 1) := by decide +kernel
theorem dL_isSafe_0 : decode cL_isSafe 0 = .ok (.iconst 0, 1) := by decide +kernel
theorem dL_isSafe_1 : decode cL_isSafe 1 = .ok (.istore_n 3, 1) := by decide +kernel
theorem dL_isSafe_2 : decode cL_isSafe 2 = .ok (.aload_n 0, 1) := by decide +kernel
theorem dL_isSafe_3 : decode cL_isSafe 3 = .ok (.iload_n 1, 1) := by decide +kernel
theorem dL_isSafe_4 : decode cL_isSafe 4 = .ok (.invokevirtual 9, 3) := by decide +kernel
theorem dL_isSafe_7 : decode cL_isSafe 7 = .ok (.istore 4, 2) := by decide +kernel
theorem dL_isSafe_9 : decode cL_isSafe 9 = .ok (.iload 4, 2) := by decide +kernel
theorem dL_isSafe_11 : decode cL_isSafe 11 = .ok (.invokestatic 15, 3) := by decide +kernel
theorem dL_isSafe_14 : decode cL_isSafe 14 = .ok (.iconst 3, 1) := by decide +kernel
theorem dL_isSafe_15 : decode cL_isSafe 15 = .ok (.if_icmp .gt 7, 3) := by decide +kernel
theorem dL_isSafe_18 : decode cL_isSafe 18 = .ok (.iconst 1, 1) := by decide +kernel
theorem dL_isSafe_19 : decode cL_isSafe 19 = .ok (.goto 4, 3) := by decide +kernel
theorem dL_isSafe_22 : decode cL_isSafe 22 = .ok (.iconst 0, 1) := by decide +kernel
theorem dL_isSafe_23 : decode cL_isSafe 23 = .ok (.istore 5, 2) := by decide +kernel
theorem dL_isSafe_25 : decode cL_isSafe 25 = .ok (.iconst 0, 1) := by decide +kernel
theorem dL_isSafe_26 : decode cL_isSafe 26 = .ok (.istore 6, 2) := by decide +kernel
theorem dL_isSafe_28 : decode cL_isSafe 28 = .ok (.iload 6, 2) := by decide +kernel
theorem dL_isSafe_30 : decode cL_isSafe 30 = .ok (.bipush 8, 2) := by decide +kernel
theorem dL_isSafe_32 : decode cL_isSafe 32 = .ok (.if_icmp .ge 91, 3) := by decide +kernel
theorem dL_isSafe_35 : decode cL_isSafe 35 = .ok (.iload 5, 2) := by decide +kernel
theorem dL_isSafe_37 : decode cL_isSafe 37 = .ok (.ifCond .eq 86, 3) := by decide +kernel
theorem dL_isSafe_40 : decode cL_isSafe 40 = .ok (.aload_n 0, 1) := by decide +kernel
theorem dL_isSafe_41 : decode cL_isSafe 41 = .ok (.iload 6, 2) := by decide +kernel
theorem dL_isSafe_43 : decode cL_isSafe 43 = .ok (.iload_n 1, 1) := by decide +kernel
theorem dL_isSafe_44 : decode cL_isSafe 44 = .ok (.invokevirtual 20, 3) := by decide +kernel
theorem dL_isSafe_47 : decode cL_isSafe 47 = .ok (.istore 7, 2) := by decide +kernel
theorem dL_isSafe_49 : decode cL_isSafe 49 = .ok (.aload_n 0, 1) := by decide +kernel
theorem dL_isSafe_50 : decode cL_isSafe 50 = .ok (.iload 6, 2) := by decide +kernel
theorem dL_isSafe_52 : decode cL_isSafe 52 = .ok (.iload_n 1, 1) := by decide +kernel
theorem dL_isSafe_53 : decode cL_isSafe 53 = .ok (.invokevirtual 24, 3) := by decide +kernel
theorem dL_isSafe_56 : decode cL_isSafe 56 = .ok (.istore 8, 2) := by decide +kernel
theorem dL_isSafe_58 : decode cL_isSafe 58 = .ok (.iload_n 3, 1) := by decide +kernel
theorem dL_isSafe_59 : decode cL_isSafe 59 = .ok (.iload 7, 2) := by decide +kernel
theorem dL_isSafe_61 : decode cL_isSafe 61 = .ok (.iload 8, 2) := by decide +kernel
theorem dL_isSafe_63 : decode cL_isSafe 63 = .ok (.iconst (-1), 1) := by decide +kernel
theorem dL_isSafe_64 : decode cL_isSafe 64 = .ok (.ixor, 1) := by decide +kernel
theorem dL_isSafe_65 : decode cL_isSafe 65 = .ok (.iand, 1) := by decide +kernel
theorem dL_isSafe_66 : decode cL_isSafe 66 = .ok (.invokestatic 15, 3) := by decide +kernel
theorem dL_isSafe_69 : decode cL_isSafe 69 = .ok (.iadd, 1) := by decide +kernel
theorem dL_isSafe_70 : decode cL_isSafe 70 = .ok (.istore_n 3, 1) := by decide +kernel
theorem dL_isSafe_71 : decode cL_isSafe 71 = .ok (.iload 8, 2) := by decide +kernel
theorem dL_isSafe_73 : decode cL_isSafe 73 = .ok (.iload 7, 2) := by decide +kernel
theorem dL_isSafe_75 : decode cL_isSafe 75 = .ok (.iconst (-1), 1) := by decide +kernel
theorem dL_isSafe_76 : decode cL_isSafe 76 = .ok (.ixor, 1) := by decide +kernel
theorem dL_isSafe_77 : decode cL_isSafe 77 = .ok (.iand, 1) := by decide +kernel
theorem dL_isSafe_78 : decode cL_isSafe 78 = .ok (.ifCond .ne 36, 3) := by decide +kernel
theorem dL_isSafe_81 : decode cL_isSafe 81 = .ok (.iload 7, 2) := by decide +kernel
theorem dL_isSafe_83 : decode cL_isSafe 83 = .ok (.aload_n 0, 1) := by decide +kernel
theorem dL_isSafe_84 : decode cL_isSafe 84 = .ok (.iload 6, 2) := by decide +kernel
theorem dL_isSafe_86 : decode cL_isSafe 86 = .ok (.iload_n 1, 1) := by decide +kernel
theorem dL_isSafe_87 : decode cL_isSafe 87 = .ok (.invokevirtual 27, 3) := by decide +kernel
theorem dL_isSafe_90 : decode cL_isSafe 90 = .ok (.if_icmp .ne 24, 3) := by decide +kernel
theorem dL_isSafe_93 : decode cL_isSafe 93 = .ok (.iload 4, 2) := by decide +kernel
theorem dL_isSafe_95 : decode cL_isSafe 95 = .ok (.iload 6, 2) := by decide +kernel
theorem dL_isSafe_97 : decode cL_isSafe 97 = .ok (.ishr, 1) := by decide +kernel
theorem dL_isSafe_98 : decode cL_isSafe 98 = .ok (.iconst 1, 1) := by decide +kernel
theorem dL_isSafe_99 : decode cL_isSafe 99 = .ok (.iand, 1) := by decide +kernel
theorem dL_isSafe_100 : decode cL_isSafe 100 = .ok (.ifCond .eq 10, 3) := by decide +kernel
theorem dL_isSafe_103 : decode cL_isSafe 103 = .ok (.iload 8, 2) := by decide +kernel
theorem dL_isSafe_105 : decode cL_isSafe 105 = .ok (.iload 7, 2) := by decide +kernel
theorem dL_isSafe_107 : decode cL_isSafe 107 = .ok (.if_icmp .ne 7, 3) := by decide +kernel
theorem dL_isSafe_110 : decode cL_isSafe 110 = .ok (.iconst 1, 1) := by decide +kernel
theorem dL_isSafe_111 : decode cL_isSafe 111 = .ok (.goto 4, 3) := by decide +kernel
theorem dL_isSafe_114 : decode cL_isSafe 114 = .ok (.iconst 0, 1) := by decide +kernel
theorem dL_isSafe_115 : decode cL_isSafe 115 = .ok (.istore 5, 2) := by decide +kernel
theorem dL_isSafe_117 : decode cL_isSafe 117 = .ok (.iinc 6 1, 3) := by decide +kernel
theorem dL_isSafe_120 : decode cL_isSafe 120 = .ok (.goto (-92), 3) := by decide +kernel
theorem dL_isSafe_123 : decode cL_isSafe 123 = .ok (.iload 5, 2) := by decide +kernel
theorem dL_isSafe_125 : decode cL_isSafe 125 = .ok (.ifCond .eq 40, 3) := by decide +kernel
theorem dL_isSafe_128 : decode cL_isSafe 128 = .ok (.iload_n 3, 1) := by decide +kernel
theorem dL_isSafe_129 : decode cL_isSafe 129 = .ok (.aload_n 0, 1) := by decide +kernel
theorem dL_isSafe_130 : decode cL_isSafe 130 = .ok (.iload_n 1, 1) := by decide +kernel
theorem dL_isSafe_131 : decode cL_isSafe 131 = .ok (.invokevirtual 30, 3) := by decide +kernel
theorem dL_isSafe_134 : decode cL_isSafe 134 = .ok (.if_icmp .ne 31, 3) := by decide +kernel
theorem dL_isSafe_137 : decode cL_isSafe 137 = .ok (.aload_n 0, 1) := by decide +kernel
theorem dL_isSafe_138 : decode cL_isSafe 138 = .ok (.iload_n 1, 1) := by decide +kernel
theorem dL_isSafe_139 : decode cL_isSafe 139 = .ok (.iload_n 2, 1) := by decide +kernel
theorem dL_isSafe_140 : decode cL_isSafe 140 = .ok (.invokevirtual 33, 3) := by decide +kernel
theorem dL_isSafe_143 : decode cL_isSafe 143 = .ok (.iload_n 3, 1) := by decide +kernel
theorem dL_isSafe_144 : decode cL_isSafe 144 = .ok (.if_icmp .lt 21, 3) := by decide +kernel
theorem dL_isSafe_147 : decode cL_isSafe 147 = .ok (.aload_n 0, 1) := by decide +kernel
theorem dL_isSafe_148 : decode cL_isSafe 148 = .ok (.iload_n 1, 1) := by decide +kernel
theorem dL_isSafe_149 : decode cL_isSafe 149 = .ok (.aload_n 0, 1) := by decide +kernel
theorem dL_isSafe_150 : decode cL_isSafe 150 = .ok (.iload_n 1, 1) := by decide +kernel
theorem dL_isSafe_151 : decode cL_isSafe 151 = .ok (.invokevirtual 36, 3) := by decide +kernel
theorem dL_isSafe_154 : decode cL_isSafe 154 = .ok (.invokevirtual 33, 3) := by decide +kernel
theorem dL_isSafe_157 : decode cL_isSafe 157 = .ok (.iload_n 3, 1) := by decide +kernel
theorem dL_isSafe_158 : decode cL_isSafe 158 = .ok (.if_icmp .ne 7, 3) := by decide +kernel
theorem dL_isSafe_161 : decode cL_isSafe 161 = .ok (.iconst 1, 1) := by decide +kernel
theorem dL_isSafe_162 : decode cL_isSafe 162 = .ok (.goto 4, 3) := by decide +kernel
theorem dL_isSafe_165 : decode cL_isSafe 165 = .ok (.iconst 0, 1) := by decide +kernel
theorem dL_isSafe_166 : decode cL_isSafe 166 = .ok (.ireturn, 1) := by decide +kernel
theorem dL_isPassed_0 : decode cL_isPassed 0 = .ok (.aload_n 0, 1) := by decide +kernel
theorem dL_isPassed_1 : decode cL_isPassed 1 = .ok (.invokevirtual 39, 3) := by decide +kernel
theorem dL_isPassed_4 : decode cL_isPassed 4 = .ok (.istore_n 2, 1) := by decide +kernel
theorem dL_isPassed_5 : decode cL_isPassed 5 = .ok (.aload_n 0, 1) := by decide +kernel
theorem dL_isPassed_6 : decode cL_isPassed 6 = .ok (.invokevirtual 43, 3) := by decide +kernel
theorem dL_isPassed_9 : decode cL_isPassed 9 = .ok (.istore_n 3, 1) := by decide +kernel
theorem dL_isPassed_10 : decode cL_isPassed 10 = .ok (.iload_n 3, 1) := by decide +kernel
theorem dL_isPassed_11 : decode cL_isPassed 11 = .ok (.ifCond .lt 27, 3) := by decide +kernel
theorem dL_isPassed_14 : decode cL_isPassed 14 = .ok (.iload_n 3, 1) := by decide +kernel
theorem dL_isPassed_15 : decode cL_isPassed 15 = .ok (.iload_n 2, 1) := by decide +kernel
theorem dL_isPassed_16 : decode cL_isPassed 16 = .ok (.if_icmp .gt 22, 3) := by decide +kernel
theorem dL_isPassed_19 : decode cL_isPassed 19 = .ok (.aload_n 0, 1) := by decide +kernel
theorem dL_isPassed_20 : decode cL_isPassed 20 = .ok (.invokevirtual 43, 3) := by decide +kernel
theorem dL_isPassed_23 : decode cL_isPassed 23 = .ok (.ifCond .ne 15, 3) := by decide +kernel
theorem dL_isPassed_26 : decode cL_isPassed 26 = .ok (.aload_n 0, 1) := by decide +kernel
theorem dL_isPassed_27 : decode cL_isPassed 27 = .ok (.iload_n 1, 1) := by decide +kernel
theorem dL_isPassed_28 : decode cL_isPassed 28 = .ok (.invokevirtual 46, 3) := by decide +kernel
theorem dL_isPassed_31 : decode cL_isPassed 31 = .ok (.ifCond .eq 7, 3) := by decide +kernel
theorem dL_isPassed_34 : decode cL_isPassed 34 = .ok (.iconst 1, 1) := by decide +kernel
theorem dL_isPassed_35 : decode cL_isPassed 35 = .ok (.goto 4, 3) := by decide +kernel
theorem dL_isPassed_38 : decode cL_isPassed 38 = .ok (.iconst 0, 1) := by decide +kernel
theorem dL_isPassed_39 : decode cL_isPassed 39 = .ok (.istore 4, 2) := by decide +kernel
theorem dL_isPassed_41 : decode cL_isPassed 41 = .ok (.aload_n 0, 1) := by decide +kernel
theorem dL_isPassed_42 : decode cL_isPassed 42 = .ok (.iload_n 1, 1) := by decide +kernel
theorem dL_isPassed_43 : decode cL_isPassed 43 = .ok (.invokevirtual 50, 3) := by decide +kernel
theorem dL_isPassed_46 : decode cL_isPassed 46 = .ok (.ifCond .ne 9, 3) := by decide +kernel
theorem dL_isPassed_49 : decode cL_isPassed 49 = .ok (.aload_n 0, 1) := by decide +kernel
theorem dL_isPassed_50 : decode cL_isPassed 50 = .ok (.iload_n 1, 1) := by decide +kernel
theorem dL_isPassed_51 : decode cL_isPassed 51 = .ok (.invokevirtual 50, 3) := by decide +kernel
theorem dL_isPassed_54 : decode cL_isPassed 54 = .ok (.pop, 1) := by decide +kernel
theorem dL_isPassed_55 : decode cL_isPassed 55 = .ok (.iconst 0, 1) := by decide +kernel
theorem dL_isPassed_56 : decode cL_isPassed 56 = .ok (.istore 5, 2) := by decide +kernel
theorem dL_isPassed_58 : decode cL_isPassed 58 = .ok (.iload 5, 2) := by decide +kernel
theorem dL_isPassed_60 : decode cL_isPassed 60 = .ok (.bipush 8, 2) := by decide +kernel
theorem dL_isPassed_62 : decode cL_isPassed 62 = .ok (.if_icmp .ge 38, 3) := by decide +kernel
theorem dL_isPassed_65 : decode cL_isPassed 65 = .ok (.iload 4, 2) := by decide +kernel
theorem dL_isPassed_67 : decode cL_isPassed 67 = .ok (.ifCond .eq 33, 3) := by decide +kernel
theorem dL_isPassed_70 : decode cL_isPassed 70 = .ok (.aload_n 0, 1) := by decide +kernel
theorem dL_isPassed_71 : decode cL_isPassed 71 = .ok (.iload 5, 2) := by decide +kernel
theorem dL_isPassed_73 : decode cL_isPassed 73 = .ok (.iload_n 1, 1) := by decide +kernel
theorem dL_isPassed_74 : decode cL_isPassed 74 = .ok (.invokevirtual 53, 3) := by decide +kernel
theorem dL_isPassed_77 : decode cL_isPassed 77 = .ok (.aload_n 0, 1) := by decide +kernel
theorem dL_isPassed_78 : decode cL_isPassed 78 = .ok (.iload 5, 2) := by decide +kernel
theorem dL_isPassed_80 : decode cL_isPassed 80 = .ok (.iload_n 1, 1) := by decide +kernel
theorem dL_isPassed_81 : decode cL_isPassed 81 = .ok (.invokevirtual 24, 3) := by decide +kernel
theorem dL_isPassed_84 : decode cL_isPassed 84 = .ok (.if_icmp .ne 7, 3) := by decide +kernel
theorem dL_isPassed_87 : decode cL_isPassed 87 = .ok (.iconst 1, 1) := by decide +kernel
theorem dL_isPassed_88 : decode cL_isPassed 88 = .ok (.goto 4, 3) := by decide +kernel
theorem dL_isPassed_91 : decode cL_isPassed 91 = .ok (.iconst 0, 1) := by decide +kernel
theorem dL_isPassed_92 : decode cL_isPassed 92 = .ok (.istore 4, 2) := by decide +kernel
theorem dL_isPassed_94 : decode cL_isPassed 94 = .ok (.iinc 5 3, 3) := by decide +kernel
theorem dL_isPassed_97 : decode cL_isPassed 97 = .ok (.goto (-39), 3) := by decide +kernel
theorem dL_isPassed_100 : decode cL_isPassed 100 = .ok (.iload 4, 2) := by decide +kernel
theorem dL_isPassed_102 : decode cL_isPassed 102 = .ok (.ifCond .eq 15, 3) := by decide +kernel
theorem dL_isPassed_105 : decode cL_isPassed 105 = .ok (.aload_n 0, 1) := by decide +kernel
theorem dL_isPassed_106 : decode cL_isPassed 106 = .ok (.iload_n 1, 1) := by decide +kernel
theorem dL_isPassed_107 : decode cL_isPassed 107 = .ok (.invokevirtual 56, 3) := by decide +kernel
theorem dL_isPassed_110 : decode cL_isPassed 110 = .ok (.ifCond .ne 7, 3) := by decide +kernel
theorem dL_isPassed_113 : decode cL_isPassed 113 = .ok (.iconst 1, 1) := by decide +kernel
theorem dL_isPassed_114 : decode cL_isPassed 114 = .ok (.goto 4, 3) := by decide +kernel
theorem dL_isPassed_117 : decode cL_isPassed 117 = .ok (.iconst 0, 1) := by decide +kernel
theorem dL_isPassed_118 : decode cL_isPassed 118 = .ok (.ireturn, 1) := by decide +kernel
