theorem dL_does_0 : decode cL_does 0 = .ok (.iload_n 1, 1) := by decide +kernel
theorem dL_does_1 : decode cL_does 1 = .ok (.bipush 10, 2) := by decide +kernel
theorem dL_does_3 : decode cL_does 3 = .ok (.idiv, 1) := by decide +kernel
theorem dL_does_4 : decode cL_does 4 = .ok (.aload_n 0, 1) := by decide +kernel
theorem dL_does_5 : decode cL_does 5 = .ok (.invokevirtual 39, 3) := by decide +kernel
theorem dL_does_8 : decode cL_does 8 = .ok (.irem, 1) := by decide +kernel
theorem dL_does_9 : decode cL_does 9 = .ok (.istore 4, 2) := by decide +kernel
theorem dL_does_11 : decode cL_does 11 = .ok (.iload_n 1, 1) := by decide +kernel
theorem dL_does_12 : decode cL_does 12 = .ok (.bipush 10, 2) := by decide +kernel
theorem dL_does_14 : decode cL_does 14 = .ok (.irem, 1) := by decide +kernel
theorem dL_does_15 : decode cL_does 15 = .ok (.tableswitch 359 0 6 #[41, 75, 75, 159, 228, 283, 338], 41) := by decide +kernel
theorem dL_does_56 : decode cL_does 56 = .ok (.aload_n 0, 1) := by decide +kernel
theorem dL_does_57 : decode cL_does 57 = .ok (.invokevirtual 39, 3) := by decide +kernel
theorem dL_does_60 : decode cL_does 60 = .ok (.bipush 20, 2) := by decide +kernel
theorem dL_does_62 : decode cL_does 62 = .ok (.if_icmp .eq 22, 3) := by decide +kernel
theorem dL_does_65 : decode cL_does 65 = .ok (.aload_n 0, 1) := by decide +kernel
theorem dL_does_66 : decode cL_does 66 = .ok (.iload 4, 2) := by decide +kernel
theorem dL_does_68 : decode cL_does 68 = .ok (.iload_n 2, 1) := by decide +kernel
theorem dL_does_69 : decode cL_does 69 = .ok (.bipush 8, 2) := by decide +kernel
theorem dL_does_71 : decode cL_does 71 = .ok (.irem, 1) := by decide +kernel
theorem dL_does_72 : decode cL_does 72 = .ok (.invokevirtual 59, 3) := by decide +kernel
theorem dL_does_75 : decode cL_does 75 = .ok (.aload_n 0, 1) := by decide +kernel
theorem dL_does_76 : decode cL_does 76 = .ok (.invokevirtual 39, 3) := by decide +kernel
theorem dL_does_79 : decode cL_does 79 = .ok (.iconst 1, 1) := by decide +kernel
theorem dL_does_80 : decode cL_does 80 = .ok (.isub, 1) := by decide +kernel
theorem dL_does_81 : decode cL_does 81 = .ok (.if_icmp .ne 7, 3) := by decide +kernel
theorem dL_does_84 : decode cL_does 84 = .ok (.iconst 1, 1) := by decide +kernel
theorem dL_does_85 : decode cL_does 85 = .ok (.goto 4, 3) := by decide +kernel
theorem dL_does_88 : decode cL_does 88 = .ok (.iconst 0, 1) := by decide +kernel
theorem dL_does_89 : decode cL_does 89 = .ok (.ireturn, 1) := by decide +kernel
theorem dL_does_90 : decode cL_does 90 = .ok (.iload_n 2, 1) := by decide +kernel
theorem dL_does_91 : decode cL_does 91 = .ok (.bipush 6, 2) := by decide +kernel
theorem dL_does_93 : decode cL_does 93 = .ok (.irem, 1) := by decide +kernel
theorem dL_does_94 : decode cL_does 94 = .ok (.istore 5, 2) := by decide +kernel
theorem dL_does_96 : decode cL_does 96 = .ok (.aload_n 0, 1) := by decide +kernel
theorem dL_does_97 : decode cL_does 97 = .ok (.iload 5, 2) := by decide +kernel
theorem dL_does_99 : decode cL_does 99 = .ok (.iload_n 2, 1) := by decide +kernel
theorem dL_does_100 : decode cL_does 100 = .ok (.bipush 6, 2) := by decide +kernel
theorem dL_does_102 : decode cL_does 102 = .ok (.idiv, 1) := by decide +kernel
theorem dL_does_103 : decode cL_does 103 = .ok (.bipush 8, 2) := by decide +kernel
theorem dL_does_105 : decode cL_does 105 = .ok (.irem, 1) := by decide +kernel
theorem dL_does_106 : decode cL_does 106 = .ok (.iload_n 2, 1) := by decide +kernel
theorem dL_does_107 : decode cL_does 107 = .ok (.bipush 48, 2) := by decide +kernel
theorem dL_does_109 : decode cL_does 109 = .ok (.idiv, 1) := by decide +kernel
theorem dL_does_110 : decode cL_does 110 = .ok (.iconst 4, 1) := by decide +kernel
theorem dL_does_111 : decode cL_does 111 = .ok (.irem, 1) := by decide +kernel
theorem dL_does_112 : decode cL_does 112 = .ok (.ifCond .le 7, 3) := by decide +kernel
theorem dL_does_115 : decode cL_does 115 = .ok (.iconst 1, 1) := by decide +kernel
theorem dL_does_116 : decode cL_does 116 = .ok (.goto 4, 3) := by decide +kernel
theorem dL_does_119 : decode cL_does 119 = .ok (.iconst 0, 1) := by decide +kernel
theorem dL_does_120 : decode cL_does 120 = .ok (.invokevirtual 62, 3) := by decide +kernel
theorem dL_does_123 : decode cL_does 123 = .ok (.pop, 1) := by decide +kernel
theorem dL_does_124 : decode cL_does 124 = .ok (.aload_n 0, 1) := by decide +kernel
theorem dL_does_125 : decode cL_does 125 = .ok (.iload 5, 2) := by decide +kernel
theorem dL_does_127 : decode cL_does 127 = .ok (.iload_n 2, 1) := by decide +kernel
theorem dL_does_128 : decode cL_does 128 = .ok (.bipush 6, 2) := by decide +kernel
theorem dL_does_130 : decode cL_does 130 = .ok (.idiv, 1) := by decide +kernel
theorem dL_does_131 : decode cL_does 131 = .ok (.bipush 8, 2) := by decide +kernel
theorem dL_does_133 : decode cL_does 133 = .ok (.irem, 1) := by decide +kernel
theorem dL_does_134 : decode cL_does 134 = .ok (.iload_n 2, 1) := by decide +kernel
theorem dL_does_135 : decode cL_does 135 = .ok (.bipush 48, 2) := by decide +kernel
theorem dL_does_137 : decode cL_does 137 = .ok (.idiv, 1) := by decide +kernel
theorem dL_does_138 : decode cL_does 138 = .ok (.iconst 4, 1) := by decide +kernel
theorem dL_does_139 : decode cL_does 139 = .ok (.irem, 1) := by decide +kernel
theorem dL_does_140 : decode cL_does 140 = .ok (.ifCond .le 7, 3) := by decide +kernel
theorem dL_does_143 : decode cL_does 143 = .ok (.iconst 1, 1) := by decide +kernel
theorem dL_does_144 : decode cL_does 144 = .ok (.goto 4, 3) := by decide +kernel
theorem dL_does_147 : decode cL_does 147 = .ok (.iconst 0, 1) := by decide +kernel
theorem dL_does_148 : decode cL_does 148 = .ok (.invokevirtual 62, 3) := by decide +kernel
theorem dL_does_151 : decode cL_does 151 = .ok (.iload_n 2, 1) := by decide +kernel
theorem dL_does_152 : decode cL_does 152 = .ok (.bipush 48, 2) := by decide +kernel
theorem dL_does_154 : decode cL_does 154 = .ok (.idiv, 1) := by decide +kernel
theorem dL_does_155 : decode cL_does 155 = .ok (.iconst 4, 1) := by decide +kernel
theorem dL_does_156 : decode cL_does 156 = .ok (.irem, 1) := by decide +kernel
theorem dL_does_157 : decode cL_does 157 = .ok (.ifCond .le 7, 3) := by decide +kernel
theorem dL_does_160 : decode cL_does 160 = .ok (.iconst 1, 1) := by decide +kernel
theorem dL_does_161 : decode cL_does 161 = .ok (.goto 4, 3) := by decide +kernel
theorem dL_does_164 : decode cL_does 164 = .ok (.iconst 0, 1) := by decide +kernel
theorem dL_does_165 : decode cL_does 165 = .ok (.if_icmp .ne 7, 3) := by decide +kernel
theorem dL_does_168 : decode cL_does 168 = .ok (.iconst 1, 1) := by decide +kernel
theorem dL_does_169 : decode cL_does 169 = .ok (.goto 4, 3) := by decide +kernel
theorem dL_does_172 : decode cL_does 172 = .ok (.iconst 0, 1) := by decide +kernel
theorem dL_does_173 : decode cL_does 173 = .ok (.ireturn, 1) := by decide +kernel
