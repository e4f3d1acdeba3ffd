/-! ===== the law's own steps, 2 ===== -/
theorem dL_sinks_37 : decode cL_sinks 37 = .ok (.iadd, 1) := by decide +kernel
theorem dL_sinks_38 : decode cL_sinks 38 = .ok (.aload_n 0, 1) := by decide +kernel
theorem dL_sinks_39 : decode cL_sinks 39 = .ok (.iload 5, 2) := by decide +kernel
theorem dL_sinks_41 : decode cL_sinks 41 = .ok (.iaload, 1) := by decide +kernel
theorem dL_sinks_42 : decode cL_sinks 42 = .ok (.if_icmp .ge 159, 3) := by decide +kernel
theorem dL_sinks_45 : decode cL_sinks 45 = .ok (.aload_n 1, 1) := by decide +kernel
theorem dL_sinks_46 : decode cL_sinks 46 = .ok (.bipush 8, 2) := by decide +kernel
theorem dL_sinks_48 : decode cL_sinks 48 = .ok (.iload 5, 2) := by decide +kernel
theorem dL_sinks_50 : decode cL_sinks 50 = .ok (.imul, 1) := by decide +kernel
theorem dL_sinks_51 : decode cL_sinks 51 = .ok (.iload 7, 2) := by decide +kernel
theorem dL_sinks_53 : decode cL_sinks 53 = .ok (.iadd, 1) := by decide +kernel
theorem dL_sinks_54 : decode cL_sinks 54 = .ok (.iconst 1, 1) := by decide +kernel
theorem dL_sinks_55 : decode cL_sinks 55 = .ok (.iadd, 1) := by decide +kernel
theorem dL_sinks_56 : decode cL_sinks 56 = .ok (.iaload, 1) := by decide +kernel
theorem dL_sinks_57 : decode cL_sinks 57 = .ok (.aload_n 1, 1) := by decide +kernel
theorem dL_sinks_58 : decode cL_sinks 58 = .ok (.bipush 8, 2) := by decide +kernel
theorem dL_sinks_60 : decode cL_sinks 60 = .ok (.iload 5, 2) := by decide +kernel
theorem dL_sinks_62 : decode cL_sinks 62 = .ok (.imul, 1) := by decide +kernel
theorem dL_sinks_63 : decode cL_sinks 63 = .ok (.iload 7, 2) := by decide +kernel
theorem dL_sinks_65 : decode cL_sinks 65 = .ok (.iadd, 1) := by decide +kernel
theorem dL_sinks_66 : decode cL_sinks 66 = .ok (.iaload, 1) := by decide +kernel
theorem dL_sinks_67 : decode cL_sinks 67 = .ok (.if_icmp .ge 134, 3) := by decide +kernel
theorem dL_sinks_70 : decode cL_sinks 70 = .ok (.iload 7, 2) := by decide +kernel
theorem dL_sinks_72 : decode cL_sinks 72 = .ok (.ifCond .le 35, 3) := by decide +kernel
theorem dL_sinks_75 : decode cL_sinks 75 = .ok (.aload_n 1, 1) := by decide +kernel
theorem dL_sinks_76 : decode cL_sinks 76 = .ok (.bipush 8, 2) := by decide +kernel
theorem dL_sinks_78 : decode cL_sinks 78 = .ok (.iload 5, 2) := by decide +kernel
theorem dL_sinks_80 : decode cL_sinks 80 = .ok (.imul, 1) := by decide +kernel
theorem dL_sinks_81 : decode cL_sinks 81 = .ok (.iload 7, 2) := by decide +kernel
theorem dL_sinks_83 : decode cL_sinks 83 = .ok (.iadd, 1) := by decide +kernel
theorem dL_sinks_84 : decode cL_sinks 84 = .ok (.iconst 1, 1) := by decide +kernel
theorem dL_sinks_85 : decode cL_sinks 85 = .ok (.isub, 1) := by decide +kernel
theorem dL_sinks_86 : decode cL_sinks 86 = .ok (.iaload, 1) := by decide +kernel
theorem dL_sinks_87 : decode cL_sinks 87 = .ok (.aload_n 1, 1) := by decide +kernel
theorem dL_sinks_88 : decode cL_sinks 88 = .ok (.bipush 8, 2) := by decide +kernel
theorem dL_sinks_90 : decode cL_sinks 90 = .ok (.iload 5, 2) := by decide +kernel
theorem dL_sinks_92 : decode cL_sinks 92 = .ok (.imul, 1) := by decide +kernel
theorem dL_sinks_93 : decode cL_sinks 93 = .ok (.iload 7, 2) := by decide +kernel
theorem dL_sinks_95 : decode cL_sinks 95 = .ok (.iadd, 1) := by decide +kernel
theorem dL_sinks_96 : decode cL_sinks 96 = .ok (.iaload, 1) := by decide +kernel
theorem dL_sinks_97 : decode cL_sinks 97 = .ok (.if_icmp .le 10, 3) := by decide +kernel
theorem dL_sinks_100 : decode cL_sinks 100 = .ok (.iload 7, 2) := by decide +kernel
theorem dL_sinks_102 : decode cL_sinks 102 = .ok (.iconst 1, 1) := by decide +kernel
theorem dL_sinks_103 : decode cL_sinks 103 = .ok (.isub, 1) := by decide +kernel
theorem dL_sinks_104 : decode cL_sinks 104 = .ok (.goto 7, 3) := by decide +kernel
theorem dL_sinks_107 : decode cL_sinks 107 = .ok (.iload 7, 2) := by decide +kernel
theorem dL_sinks_109 : decode cL_sinks 109 = .ok (.iconst 1, 1) := by decide +kernel
theorem dL_sinks_110 : decode cL_sinks 110 = .ok (.iadd, 1) := by decide +kernel
theorem dL_sinks_111 : decode cL_sinks 111 = .ok (.istore 8, 2) := by decide +kernel
theorem dL_sinks_113 : decode cL_sinks 113 = .ok (.aload_n 1, 1) := by decide +kernel
theorem dL_sinks_114 : decode cL_sinks 114 = .ok (.bipush 8, 2) := by decide +kernel
theorem dL_sinks_116 : decode cL_sinks 116 = .ok (.iload 5, 2) := by decide +kernel
theorem dL_sinks_118 : decode cL_sinks 118 = .ok (.imul, 1) := by decide +kernel
theorem dL_sinks_119 : decode cL_sinks 119 = .ok (.iload 7, 2) := by decide +kernel
theorem dL_sinks_121 : decode cL_sinks 121 = .ok (.iadd, 1) := by decide +kernel
theorem dL_sinks_122 : decode cL_sinks 122 = .ok (.bipush 8, 2) := by decide +kernel
theorem dL_sinks_124 : decode cL_sinks 124 = .ok (.iload 5, 2) := by decide +kernel
theorem dL_sinks_126 : decode cL_sinks 126 = .ok (.imul, 1) := by decide +kernel
theorem dL_sinks_127 : decode cL_sinks 127 = .ok (.iload 8, 2) := by decide +kernel
theorem dL_sinks_129 : decode cL_sinks 129 = .ok (.iadd, 1) := by decide +kernel
theorem dL_sinks_130 : decode cL_sinks 130 = .ok (.invokestatic 25, 3) := by decide +kernel
theorem dL_sinks_133 : decode cL_sinks 133 = .ok (.aload_n 2, 1) := by decide +kernel
theorem dL_sinks_134 : decode cL_sinks 134 = .ok (.bipush 8, 2) := by decide +kernel
theorem dL_sinks_136 : decode cL_sinks 136 = .ok (.iload 5, 2) := by decide +kernel
theorem dL_sinks_138 : decode cL_sinks 138 = .ok (.imul, 1) := by decide +kernel
theorem dL_sinks_139 : decode cL_sinks 139 = .ok (.iload 7, 2) := by decide +kernel
theorem dL_sinks_141 : decode cL_sinks 141 = .ok (.iadd, 1) := by decide +kernel
theorem dL_sinks_142 : decode cL_sinks 142 = .ok (.bipush 8, 2) := by decide +kernel
theorem dL_sinks_144 : decode cL_sinks 144 = .ok (.iload 5, 2) := by decide +kernel
theorem dL_sinks_146 : decode cL_sinks 146 = .ok (.imul, 1) := by decide +kernel
theorem dL_sinks_147 : decode cL_sinks 147 = .ok (.iload 8, 2) := by decide +kernel
theorem dL_sinks_149 : decode cL_sinks 149 = .ok (.iadd, 1) := by decide +kernel
theorem dL_sinks_150 : decode cL_sinks 150 = .ok (.invokestatic 25, 3) := by decide +kernel
theorem dL_sinks_153 : decode cL_sinks 153 = .ok (.aload_n 3, 1) := by decide +kernel
theorem dL_sinks_154 : decode cL_sinks 154 = .ok (.bipush 8, 2) := by decide +kernel
theorem dL_sinks_156 : decode cL_sinks 156 = .ok (.iload 5, 2) := by decide +kernel
theorem dL_sinks_158 : decode cL_sinks 158 = .ok (.imul, 1) := by decide +kernel
theorem dL_sinks_159 : decode cL_sinks 159 = .ok (.iload 7, 2) := by decide +kernel
theorem dL_sinks_161 : decode cL_sinks 161 = .ok (.iadd, 1) := by decide +kernel
theorem dL_sinks_162 : decode cL_sinks 162 = .ok (.bipush 8, 2) := by decide +kernel
theorem dL_sinks_164 : decode cL_sinks 164 = .ok (.iload 5, 2) := by decide +kernel
theorem dL_sinks_166 : decode cL_sinks 166 = .ok (.imul, 1) := by decide +kernel
theorem dL_sinks_167 : decode cL_sinks 167 = .ok (.iload 8, 2) := by decide +kernel
theorem dL_sinks_169 : decode cL_sinks 169 = .ok (.iadd, 1) := by decide +kernel
theorem dL_sinks_170 : decode cL_sinks 170 = .ok (.invokestatic 25, 3) := by decide +kernel
theorem dL_sinks_173 : decode cL_sinks 173 = .ok (.aload 4, 2) := by decide +kernel
theorem dL_sinks_175 : decode cL_sinks 175 = .ok (.bipush 8, 2) := by decide +kernel
theorem dL_sinks_177 : decode cL_sinks 177 = .ok (.iload 5, 2) := by decide +kernel
theorem dL_sinks_179 : decode cL_sinks 179 = .ok (.imul, 1) := by decide +kernel
theorem dL_sinks_180 : decode cL_sinks 180 = .ok (.iload 7, 2) := by decide +kernel
theorem dL_sinks_182 : decode cL_sinks 182 = .ok (.iadd, 1) := by decide +kernel
theorem dL_sinks_183 : decode cL_sinks 183 = .ok (.bipush 8, 2) := by decide +kernel
theorem dL_sinks_185 : decode cL_sinks 185 = .ok (.iload 5, 2) := by decide +kernel
theorem dL_sinks_187 : decode cL_sinks 187 = .ok (.imul, 1) := by decide +kernel
theorem dL_sinks_188 : decode cL_sinks 188 = .ok (.iload 8, 2) := by decide +kernel
theorem dL_sinks_190 : decode cL_sinks 190 = .ok (.iadd, 1) := by decide +kernel
theorem dL_sinks_191 : decode cL_sinks 191 = .ok (.invokestatic 25, 3) := by decide +kernel
theorem dL_sinks_194 : decode cL_sinks 194 = .ok (.iload 8, 2) := by decide +kernel
theorem dL_sinks_196 : decode cL_sinks 196 = .ok (.istore 7, 2) := by decide +kernel
theorem dL_sinks_198 : decode cL_sinks 198 = .ok (.goto (-194), 3) := by decide +kernel
theorem dL_sinks_201 : decode cL_sinks 201 = .ok (.iload 7, 2) := by decide +kernel
theorem dL_sinks_203 : decode cL_sinks 203 = .ok (.ireturn, 1) := by decide +kernel
theorem dL_keyAt_0 : decode cL_keyAt 0 = .ok (.iconst (-1), 1) := by decide +kernel
theorem dL_keyAt_1 : decode cL_keyAt 1 = .ok (.istore 4, 2) := by decide +kernel
theorem dL_keyAt_3 : decode cL_keyAt 3 = .ok (.iconst 0, 1) := by decide +kernel
theorem dL_keyAt_4 : decode cL_keyAt 4 = .ok (.istore 5, 2) := by decide +kernel
theorem dL_keyAt_6 : decode cL_keyAt 6 = .ok (.iload 5, 2) := by decide +kernel
theorem dL_keyAt_8 : decode cL_keyAt 8 = .ok (.aload_n 0, 1) := by decide +kernel
theorem dL_keyAt_9 : decode cL_keyAt 9 = .ok (.iload_n 2, 1) := by decide +kernel
theorem dL_keyAt_10 : decode cL_keyAt 10 = .ok (.iaload, 1) := by decide +kernel
theorem dL_keyAt_11 : decode cL_keyAt 11 = .ok (.if_icmp .ge 31, 3) := by decide +kernel
theorem dL_keyAt_14 : decode cL_keyAt 14 = .ok (.aload_n 1, 1) := by decide +kernel
theorem dL_keyAt_15 : decode cL_keyAt 15 = .ok (.bipush 8, 2) := by decide +kernel
theorem dL_keyAt_17 : decode cL_keyAt 17 = .ok (.iload_n 2, 1) := by decide +kernel
theorem dL_keyAt_18 : decode cL_keyAt 18 = .ok (.imul, 1) := by decide +kernel
theorem dL_keyAt_19 : decode cL_keyAt 19 = .ok (.iload 5, 2) := by decide +kernel
theorem dL_keyAt_21 : decode cL_keyAt 21 = .ok (.iadd, 1) := by decide +kernel
theorem dL_keyAt_22 : decode cL_keyAt 22 = .ok (.iaload, 1) := by decide +kernel
theorem dL_keyAt_23 : decode cL_keyAt 23 = .ok (.iload_n 3, 1) := by decide +kernel
theorem dL_keyAt_24 : decode cL_keyAt 24 = .ok (.if_icmp .ne 8, 3) := by decide +kernel
theorem dL_keyAt_27 : decode cL_keyAt 27 = .ok (.iload 5, 2) := by decide +kernel
theorem dL_keyAt_29 : decode cL_keyAt 29 = .ok (.goto 5, 3) := by decide +kernel
theorem dL_keyAt_32 : decode cL_keyAt 32 = .ok (.iload 4, 2) := by decide +kernel
theorem dL_keyAt_34 : decode cL_keyAt 34 = .ok (.istore 4, 2) := by decide +kernel
theorem dL_keyAt_36 : decode cL_keyAt 36 = .ok (.iinc 5 1, 3) := by decide +kernel
theorem dL_keyAt_39 : decode cL_keyAt 39 = .ok (.goto (-33), 3) := by decide +kernel
theorem dL_keyAt_42 : decode cL_keyAt 42 = .ok (.iload 4, 2) := by decide +kernel
theorem dL_keyAt_44 : decode cL_keyAt 44 = .ok (.ireturn, 1) := by decide +kernel
theorem dL_hasLock_0 : decode cL_hasLock 0 = .ok (.iconst 0, 1) := by decide +kernel
theorem dL_hasLock_1 : decode cL_hasLock 1 = .ok (.istore_n 3, 1) := by decide +kernel
theorem dL_hasLock_2 : decode cL_hasLock 2 = .ok (.iconst 0, 1) := by decide +kernel
theorem dL_hasLock_3 : decode cL_hasLock 3 = .ok (.istore 4, 2) := by decide +kernel
theorem dL_hasLock_5 : decode cL_hasLock 5 = .ok (.iload 4, 2) := by decide +kernel
theorem dL_hasLock_7 : decode cL_hasLock 7 = .ok (.aload_n 0, 1) := by decide +kernel
theorem dL_hasLock_8 : decode cL_hasLock 8 = .ok (.iload_n 2, 1) := by decide +kernel
theorem dL_hasLock_9 : decode cL_hasLock 9 = .ok (.iaload, 1) := by decide +kernel
theorem dL_hasLock_10 : decode cL_hasLock 10 = .ok (.if_icmp .ge 35, 3) := by decide +kernel
theorem dL_hasLock_13 : decode cL_hasLock 13 = .ok (.iload_n 3, 1) := by decide +kernel
theorem dL_hasLock_14 : decode cL_hasLock 14 = .ok (.ifCond .ne 19, 3) := by decide +kernel
theorem dL_hasLock_17 : decode cL_hasLock 17 = .ok (.aload_n 1, 1) := by decide +kernel
theorem dL_hasLock_18 : decode cL_hasLock 18 = .ok (.bipush 8, 2) := by decide +kernel
theorem dL_hasLock_20 : decode cL_hasLock 20 = .ok (.iload_n 2, 1) := by decide +kernel
theorem dL_hasLock_21 : decode cL_hasLock 21 = .ok (.imul, 1) := by decide +kernel
theorem dL_hasLock_22 : decode cL_hasLock 22 = .ok (.iload 4, 2) := by decide +kernel
theorem dL_hasLock_24 : decode cL_hasLock 24 = .ok (.iadd, 1) := by decide +kernel
theorem dL_hasLock_25 : decode cL_hasLock 25 = .ok (.iaload, 1) := by decide +kernel
theorem dL_hasLock_26 : decode cL_hasLock 26 = .ok (.bipush 10, 2) := by decide +kernel
theorem dL_hasLock_28 : decode cL_hasLock 28 = .ok (.irem, 1) := by decide +kernel
theorem dL_hasLock_29 : decode cL_hasLock 29 = .ok (.iconst 1, 1) := by decide +kernel
theorem dL_hasLock_30 : decode cL_hasLock 30 = .ok (.if_icmp .ne 7, 3) := by decide +kernel
theorem dL_hasLock_33 : decode cL_hasLock 33 = .ok (.iconst 1, 1) := by decide +kernel
theorem dL_hasLock_34 : decode cL_hasLock 34 = .ok (.goto 4, 3) := by decide +kernel
theorem dL_hasLock_37 : decode cL_hasLock 37 = .ok (.iconst 0, 1) := by decide +kernel
theorem dL_hasLock_38 : decode cL_hasLock 38 = .ok (.istore_n 3, 1) := by decide +kernel
theorem dL_hasLock_39 : decode cL_hasLock 39 = .ok (.iinc 4 1, 3) := by decide +kernel
theorem dL_hasLock_42 : decode cL_hasLock 42 = .ok (.goto (-37), 3) := by decide +kernel
theorem dL_hasLock_45 : decode cL_hasLock 45 = .ok (.iload_n 3, 1) := by decide +kernel
theorem dL_hasLock_46 : decode cL_hasLock 46 = .ok (.ireturn, 1) := by decide +kernel
theorem dL_drop_0 : decode cL_drop 0 = .ok (.aload_n 0, 1) := by decide +kernel
theorem dL_drop_1 : decode cL_drop 1 = .ok (.iload 5, 2) := by decide +kernel
theorem dL_drop_3 : decode cL_drop 3 = .ok (.dup2, 1) := by decide +kernel
theorem dL_drop_4 : decode cL_drop 4 = .ok (.iaload, 1) := by decide +kernel
theorem dL_drop_5 : decode cL_drop 5 = .ok (.iconst 1, 1) := by decide +kernel
theorem dL_drop_6 : decode cL_drop 6 = .ok (.isub, 1) := by decide +kernel
theorem dL_drop_7 : decode cL_drop 7 = .ok (.iastore, 1) := by decide +kernel
theorem dL_drop_8 : decode cL_drop 8 = .ok (.bipush 8, 2) := by decide +kernel
theorem dL_drop_10 : decode cL_drop 10 = .ok (.iload 5, 2) := by decide +kernel
theorem dL_drop_12 : decode cL_drop 12 = .ok (.imul, 1) := by decide +kernel
theorem dL_drop_13 : decode cL_drop 13 = .ok (.iload 6, 2) := by decide +kernel
theorem dL_drop_15 : decode cL_drop 15 = .ok (.iadd, 1) := by decide +kernel
theorem dL_drop_16 : decode cL_drop 16 = .ok (.istore 7, 2) := by decide +kernel
theorem dL_drop_18 : decode cL_drop 18 = .ok (.iload 7, 2) := by decide +kernel
theorem dL_drop_20 : decode cL_drop 20 = .ok (.bipush 8, 2) := by decide +kernel
theorem dL_drop_22 : decode cL_drop 22 = .ok (.iload 5, 2) := by decide +kernel
theorem dL_drop_24 : decode cL_drop 24 = .ok (.imul, 1) := by decide +kernel
theorem dL_drop_25 : decode cL_drop 25 = .ok (.aload_n 0, 1) := by decide +kernel
theorem dL_drop_26 : decode cL_drop 26 = .ok (.iload 5, 2) := by decide +kernel
theorem dL_drop_28 : decode cL_drop 28 = .ok (.iaload, 1) := by decide +kernel
theorem dL_drop_29 : decode cL_drop 29 = .ok (.iadd, 1) := by decide +kernel
theorem dL_drop_30 : decode cL_drop 30 = .ok (.if_icmp .ge 51, 3) := by decide +kernel
theorem dL_drop_33 : decode cL_drop 33 = .ok (.aload_n 1, 1) := by decide +kernel
theorem dL_drop_34 : decode cL_drop 34 = .ok (.iload 7, 2) := by decide +kernel
theorem dL_drop_36 : decode cL_drop 36 = .ok (.aload_n 1, 1) := by decide +kernel
theorem dL_drop_37 : decode cL_drop 37 = .ok (.iload 7, 2) := by decide +kernel
theorem dL_drop_39 : decode cL_drop 39 = .ok (.iconst 1, 1) := by decide +kernel
theorem dL_drop_40 : decode cL_drop 40 = .ok (.iadd, 1) := by decide +kernel
theorem dL_drop_41 : decode cL_drop 41 = .ok (.iaload, 1) := by decide +kernel
theorem dL_drop_42 : decode cL_drop 42 = .ok (.iastore, 1) := by decide +kernel
theorem dL_drop_43 : decode cL_drop 43 = .ok (.aload_n 2, 1) := by decide +kernel
theorem dL_drop_44 : decode cL_drop 44 = .ok (.iload 7, 2) := by decide +kernel
theorem dL_drop_46 : decode cL_drop 46 = .ok (.aload_n 2, 1) := by decide +kernel
theorem dL_drop_47 : decode cL_drop 47 = .ok (.iload 7, 2) := by decide +kernel
theorem dL_drop_49 : decode cL_drop 49 = .ok (.iconst 1, 1) := by decide +kernel
theorem dL_drop_50 : decode cL_drop 50 = .ok (.iadd, 1) := by decide +kernel
theorem dL_drop_51 : decode cL_drop 51 = .ok (.iaload, 1) := by decide +kernel
theorem dL_drop_52 : decode cL_drop 52 = .ok (.iastore, 1) := by decide +kernel
theorem dL_drop_53 : decode cL_drop 53 = .ok (.aload_n 3, 1) := by decide +kernel
theorem dL_drop_54 : decode cL_drop 54 = .ok (.iload 7, 2) := by decide +kernel
theorem dL_drop_56 : decode cL_drop 56 = .ok (.aload_n 3, 1) := by decide +kernel
theorem dL_drop_57 : decode cL_drop 57 = .ok (.iload 7, 2) := by decide +kernel
theorem dL_drop_59 : decode cL_drop 59 = .ok (.iconst 1, 1) := by decide +kernel
theorem dL_drop_60 : decode cL_drop 60 = .ok (.iadd, 1) := by decide +kernel
theorem dL_drop_61 : decode cL_drop 61 = .ok (.iaload, 1) := by decide +kernel
theorem dL_drop_62 : decode cL_drop 62 = .ok (.iastore, 1) := by decide +kernel
theorem dL_drop_63 : decode cL_drop 63 = .ok (.aload 4, 2) := by decide +kernel
theorem dL_drop_65 : decode cL_drop 65 = .ok (.iload 7, 2) := by decide +kernel
theorem dL_drop_67 : decode cL_drop 67 = .ok (.aload 4, 2) := by decide +kernel
theorem dL_drop_69 : decode cL_drop 69 = .ok (.iload 7, 2) := by decide +kernel
theorem dL_drop_71 : decode cL_drop 71 = .ok (.iconst 1, 1) := by decide +kernel
theorem dL_drop_72 : decode cL_drop 72 = .ok (.iadd, 1) := by decide +kernel
theorem dL_drop_73 : decode cL_drop 73 = .ok (.iaload, 1) := by decide +kernel
theorem dL_drop_74 : decode cL_drop 74 = .ok (.iastore, 1) := by decide +kernel
theorem dL_drop_75 : decode cL_drop 75 = .ok (.iinc 7 1, 3) := by decide +kernel
theorem dL_drop_78 : decode cL_drop 78 = .ok (.goto (-60), 3) := by decide +kernel
theorem dL_drop_81 : decode cL_drop 81 = .ok (.return_, 1) := by decide +kernel
theorem dL_then_0 : decode cL_then 0 = .ok (.iload_n 2, 1) := by decide +kernel
theorem dL_then_1 : decode cL_then 1 = .ok (.iload_n 1, 1) := by decide +kernel
theorem dL_then_2 : decode cL_then 2 = .ok (.isub, 1) := by decide +kernel
theorem dL_then_3 : decode cL_then 3 = .ok (.iload_n 3, 1) := by decide +kernel
theorem dL_then_4 : decode cL_then 4 = .ok (.imul, 1) := by decide +kernel
theorem dL_then_5 : decode cL_then 5 = .ok (.bipush 100, 2) := by decide +kernel
theorem dL_then_7 : decode cL_then 7 = .ok (.idiv, 1) := by decide +kernel
theorem dL_then_8 : decode cL_then 8 = .ok (.iload_n 2, 1) := by decide +kernel
theorem dL_then_9 : decode cL_then 9 = .ok (.iload_n 1, 1) := by decide +kernel
theorem dL_then_10 : decode cL_then 10 = .ok (.isub, 1) := by decide +kernel
theorem dL_then_11 : decode cL_then 11 = .ok (.isub, 1) := by decide +kernel
theorem dL_then_12 : decode cL_then 12 = .ok (.istore 4, 2) := by decide +kernel
theorem dL_then_14 : decode cL_then 14 = .ok (.iload_n 0, 1) := by decide +kernel
theorem dL_then_15 : decode cL_then 15 = .ok (.iload_n 1, 1) := by decide +kernel
theorem dL_then_16 : decode cL_then 16 = .ok (.if_icmp .ge 7, 3) := by decide +kernel
theorem dL_then_19 : decode cL_then 19 = .ok (.iload_n 0, 1) := by decide +kernel
theorem dL_then_20 : decode cL_then 20 = .ok (.goto 25, 3) := by decide +kernel
theorem dL_then_23 : decode cL_then 23 = .ok (.iload_n 0, 1) := by decide +kernel
theorem dL_then_24 : decode cL_then 24 = .ok (.iload_n 2, 1) := by decide +kernel
theorem dL_then_25 : decode cL_then 25 = .ok (.if_icmp .le 10, 3) := by decide +kernel
theorem dL_then_28 : decode cL_then 28 = .ok (.iload_n 0, 1) := by decide +kernel
theorem dL_then_29 : decode cL_then 29 = .ok (.iload 4, 2) := by decide +kernel
theorem dL_then_31 : decode cL_then 31 = .ok (.iadd, 1) := by decide +kernel
theorem dL_then_32 : decode cL_then 32 = .ok (.goto 13, 3) := by decide +kernel
theorem dL_then_35 : decode cL_then 35 = .ok (.iload_n 1, 1) := by decide +kernel
theorem dL_then_36 : decode cL_then 36 = .ok (.iload_n 0, 1) := by decide +kernel
theorem dL_then_37 : decode cL_then 37 = .ok (.iload_n 1, 1) := by decide +kernel
theorem dL_then_38 : decode cL_then 38 = .ok (.isub, 1) := by decide +kernel
theorem dL_then_39 : decode cL_then 39 = .ok (.iload_n 3, 1) := by decide +kernel
theorem dL_then_40 : decode cL_then 40 = .ok (.imul, 1) := by decide +kernel
theorem dL_then_41 : decode cL_then 41 = .ok (.bipush 100, 2) := by decide +kernel
theorem dL_then_43 : decode cL_then 43 = .ok (.idiv, 1) := by decide +kernel
theorem dL_then_44 : decode cL_then 44 = .ok (.iadd, 1) := by decide +kernel
theorem dL_then_45 : decode cL_then 45 = .ok (.ireturn, 1) := by decide +kernel
set_option maxRecDepth 20000 in
theorem ggL_mayStretch_L_then : GoodIn wsL_mayStretch wsL_then := goodIn_r _ [4] (by decide +kernel) (by decide +kernel)
set_option maxRecDepth 20000 in
theorem gL_mayStretch_L_then : GoodIn wsL_mayStretch (va_wsS RL 29 yL_then wsL_then) := goodIn_app (goodIn_of _ (by decide +kernel)) ggL_mayStretch_L_then
theorem dL_mayStretch_0 : decode cL_mayStretch 0 = .ok (.iconst 1, 1) := by decide +kernel
theorem dL_mayStretch_1 : decode cL_mayStretch 1 = .ok (.istore 7, 2) := by decide +kernel
theorem dL_mayStretch_3 : decode cL_mayStretch 3 = .ok (.bipush 8, 2) := by decide +kernel
theorem dL_mayStretch_5 : decode cL_mayStretch 5 = .ok (.iload_n 3, 1) := by decide +kernel
theorem dL_mayStretch_6 : decode cL_mayStretch 6 = .ok (.imul, 1) := by decide +kernel
theorem dL_mayStretch_7 : decode cL_mayStretch 7 = .ok (.istore 8, 2) := by decide +kernel
theorem dL_mayStretch_9 : decode cL_mayStretch 9 = .ok (.iload 8, 2) := by decide +kernel
theorem dL_mayStretch_11 : decode cL_mayStretch 11 = .ok (.bipush 8, 2) := by decide +kernel
theorem dL_mayStretch_13 : decode cL_mayStretch 13 = .ok (.iload_n 3, 1) := by decide +kernel
theorem dL_mayStretch_14 : decode cL_mayStretch 14 = .ok (.imul, 1) := by decide +kernel
theorem dL_mayStretch_15 : decode cL_mayStretch 15 = .ok (.aload_n 0, 1) := by decide +kernel
theorem dL_mayStretch_16 : decode cL_mayStretch 16 = .ok (.iload_n 3, 1) := by decide +kernel
theorem dL_mayStretch_17 : decode cL_mayStretch 17 = .ok (.iaload, 1) := by decide +kernel
theorem dL_mayStretch_18 : decode cL_mayStretch 18 = .ok (.iadd, 1) := by decide +kernel
theorem dL_mayStretch_19 : decode cL_mayStretch 19 = .ok (.if_icmp .ge 112, 3) := by decide +kernel
theorem dL_mayStretch_22 : decode cL_mayStretch 22 = .ok (.aload_n 1, 1) := by decide +kernel
theorem dL_mayStretch_23 : decode cL_mayStretch 23 = .ok (.iload 8, 2) := by decide +kernel
theorem dL_mayStretch_25 : decode cL_mayStretch 25 = .ok (.iaload, 1) := by decide +kernel
theorem dL_mayStretch_26 : decode cL_mayStretch 26 = .ok (.iload 4, 2) := by decide +kernel
theorem dL_mayStretch_28 : decode cL_mayStretch 28 = .ok (.iload 5, 2) := by decide +kernel
theorem dL_mayStretch_30 : decode cL_mayStretch 30 = .ok (.iload 6, 2) := by decide +kernel
theorem dL_mayStretch_32 : decode cL_mayStretch 32 = .ok (.invokestatic 29, 3) := by decide +kernel
theorem dL_mayStretch_35 : decode cL_mayStretch 35 = .ok (.istore 9, 2) := by decide +kernel
theorem dL_mayStretch_37 : decode cL_mayStretch 37 = .ok (.iload 7, 2) := by decide +kernel
theorem dL_mayStretch_39 : decode cL_mayStretch 39 = .ok (.ifCond .eq 34, 3) := by decide +kernel
theorem dL_mayStretch_42 : decode cL_mayStretch 42 = .ok (.iload 9, 2) := by decide +kernel
theorem dL_mayStretch_44 : decode cL_mayStretch 44 = .ok (.sipush 1000, 3) := by decide +kernel
theorem dL_mayStretch_47 : decode cL_mayStretch 47 = .ok (.if_icmp .ge 26, 3) := by decide +kernel
theorem dL_mayStretch_50 : decode cL_mayStretch 50 = .ok (.aload_n 2, 1) := by decide +kernel
theorem dL_mayStretch_51 : decode cL_mayStretch 51 = .ok (.iload 8, 2) := by decide +kernel
theorem dL_mayStretch_53 : decode cL_mayStretch 53 = .ok (.iaload, 1) := by decide +kernel
theorem dL_mayStretch_54 : decode cL_mayStretch 54 = .ok (.bipush 10, 2) := by decide +kernel
theorem dL_mayStretch_56 : decode cL_mayStretch 56 = .ok (.irem, 1) := by decide +kernel
theorem dL_mayStretch_57 : decode cL_mayStretch 57 = .ok (.ifCond .eq 12, 3) := by decide +kernel
theorem dL_mayStretch_60 : decode cL_mayStretch 60 = .ok (.iload 9, 2) := by decide +kernel
theorem dL_mayStretch_62 : decode cL_mayStretch 62 = .ok (.aload_n 1, 1) := by decide +kernel
theorem dL_mayStretch_63 : decode cL_mayStretch 63 = .ok (.iload 8, 2) := by decide +kernel
theorem dL_mayStretch_65 : decode cL_mayStretch 65 = .ok (.iaload, 1) := by decide +kernel
theorem dL_mayStretch_66 : decode cL_mayStretch 66 = .ok (.if_icmp .ne 7, 3) := by decide +kernel
theorem dL_mayStretch_69 : decode cL_mayStretch 69 = .ok (.iconst 1, 1) := by decide +kernel
theorem dL_mayStretch_70 : decode cL_mayStretch 70 = .ok (.goto 4, 3) := by decide +kernel
theorem dL_mayStretch_73 : decode cL_mayStretch 73 = .ok (.iconst 0, 1) := by decide +kernel
theorem dL_mayStretch_74 : decode cL_mayStretch 74 = .ok (.istore 7, 2) := by decide +kernel
theorem dL_mayStretch_76 : decode cL_mayStretch 76 = .ok (.bipush 8, 2) := by decide +kernel
theorem dL_mayStretch_78 : decode cL_mayStretch 78 = .ok (.iload_n 3, 1) := by decide +kernel
theorem dL_mayStretch_79 : decode cL_mayStretch 79 = .ok (.imul, 1) := by decide +kernel
theorem dL_mayStretch_80 : decode cL_mayStretch 80 = .ok (.istore 10, 2) := by decide +kernel
theorem dL_mayStretch_82 : decode cL_mayStretch 82 = .ok (.iload 10, 2) := by decide +kernel
theorem dL_mayStretch_84 : decode cL_mayStretch 84 = .ok (.iload 8, 2) := by decide +kernel
theorem dL_mayStretch_86 : decode cL_mayStretch 86 = .ok (.if_icmp .ge 39, 3) := by decide +kernel
theorem dL_mayStretch_89 : decode cL_mayStretch 89 = .ok (.iload 7, 2) := by decide +kernel
theorem dL_mayStretch_91 : decode cL_mayStretch 91 = .ok (.ifCond .eq 25, 3) := by decide +kernel
theorem dL_mayStretch_94 : decode cL_mayStretch 94 = .ok (.aload_n 1, 1) := by decide +kernel
theorem dL_mayStretch_95 : decode cL_mayStretch 95 = .ok (.iload 10, 2) := by decide +kernel
theorem dL_mayStretch_97 : decode cL_mayStretch 97 = .ok (.iaload, 1) := by decide +kernel
theorem dL_mayStretch_98 : decode cL_mayStretch 98 = .ok (.iload 4, 2) := by decide +kernel
theorem dL_mayStretch_100 : decode cL_mayStretch 100 = .ok (.iload 5, 2) := by decide +kernel
theorem dL_mayStretch_102 : decode cL_mayStretch 102 = .ok (.iload 6, 2) := by decide +kernel
theorem dL_mayStretch_104 : decode cL_mayStretch 104 = .ok (.invokestatic 29, 3) := by decide +kernel
theorem dL_mayStretch_107 : decode cL_mayStretch 107 = .ok (.iload 9, 2) := by decide +kernel
theorem dL_mayStretch_109 : decode cL_mayStretch 109 = .ok (.if_icmp .eq 7, 3) := by decide +kernel
theorem dL_mayStretch_112 : decode cL_mayStretch 112 = .ok (.iconst 1, 1) := by decide +kernel
theorem dL_mayStretch_113 : decode cL_mayStretch 113 = .ok (.goto 4, 3) := by decide +kernel
theorem dL_mayStretch_116 : decode cL_mayStretch 116 = .ok (.iconst 0, 1) := by decide +kernel
theorem dL_mayStretch_117 : decode cL_mayStretch 117 = .ok (.istore 7, 2) := by decide +kernel
theorem dL_mayStretch_119 : decode cL_mayStretch 119 = .ok (.iinc 10 1, 3) := by decide +kernel
theorem dL_mayStretch_122 : decode cL_mayStretch 122 = .ok (.goto (-40), 3) := by decide +kernel
theorem dL_mayStretch_125 : decode cL_mayStretch 125 = .ok (.iinc 8 1, 3) := by decide +kernel
theorem dL_mayStretch_128 : decode cL_mayStretch 128 = .ok (.goto (-119), 3) := by decide +kernel
theorem dL_mayStretch_131 : decode cL_mayStretch 131 = .ok (.iload 7, 2) := by decide +kernel
theorem dL_mayStretch_133 : decode cL_mayStretch 133 = .ok (.ireturn, 1) := by decide +kernel
set_option maxRecDepth 20000 in
theorem ggL_adds_X3_addKey : GoodIn wsL_adds wsX3_addKey := goodIn_ca (goodIn_ca (goodIn_ca (goodIn_r _ [11, 12, 13, 14, 15, 16, 10, 17, 18, 19, 20, 21, 22, 23, 24, 25, 26, 27, 28, 29, 30, 31, 32, 33, 34, 35, 36, 37, 38, 39, 40, 41, 42, 43, 44, 45, 46, 47, 48, 49, 50, 51, 52, 53, 54, 55, 56, 57, 58, 59, 60, 61, 62, 63, 64, 65, 66, 67, 68, 69, 70, 71, 72, 73, 74, 75, 76, 77, 78] (by decide +kernel) (by decide +kernel)) (goodIn_sub (fun _ h => List.mem_cons_of_mem _ (List.mem_append_left _ (List.mem_append_left _ (List.mem_append_right _ h)))) (by decide +kernel))) (goodIn_sub (fun _ h => List.mem_cons_of_mem _ (List.mem_append_left _ (List.mem_append_right _ h))) (by decide +kernel))) (goodIn_sub (fun _ h => List.mem_cons_of_mem _ (List.mem_append_right _ h)) (by decide +kernel))
set_option maxRecDepth 20000 in
theorem gL_adds_X3_addKey : GoodIn wsL_adds (wsV RL 89 RX3 yX3_addKey wsX3_addKey) := goodIn_app (goodIn_of _ (by decide +kernel)) ggL_adds_X3_addKey
theorem dL_adds_0 : decode cL_adds 0 = .ok (.aload_n 0, 1) := by decide +kernel
theorem dL_adds_1 : decode cL_adds 1 = .ok (.iload_n 1, 1) := by decide +kernel
theorem dL_adds_2 : decode cL_adds 2 = .ok (.iload_n 2, 1) := by decide +kernel
theorem dL_adds_3 : decode cL_adds 3 = .ok (.iload_n 3, 1) := by decide +kernel
theorem dL_adds_4 : decode cL_adds 4 = .ok (.iload 4, 2) := by decide +kernel
theorem dL_adds_6 : decode cL_adds 6 = .ok (.invokevirtual 89, 3) := by decide +kernel
theorem dL_adds_9 : decode cL_adds 9 = .ok (.ireturn, 1) := by decide +kernel
theorem dL_adds_10 : decode cL_adds 10 = .ok (.astore 5, 2) := by decide +kernel
theorem dL_adds_12 : decode cL_adds 12 = .ok (.ldc 55, 2) := by decide +kernel
theorem dL_adds_14 : decode cL_adds 14 = .ok (.ireturn, 1) := by decide +kernel
theorem dL_adds_15 : decode cL_adds 15 = .ok (.astore 5, 2) := by decide +kernel
theorem dL_adds_17 : decode cL_adds 17 = .ok (.ldc 42, 2) := by decide +kernel
theorem dL_adds_19 : decode cL_adds 19 = .ok (.ireturn, 1) := by decide +kernel
theorem dL_adds_20 : decode cL_adds 20 = .ok (.astore 5, 2) := by decide +kernel
theorem dL_adds_22 : decode cL_adds 22 = .ok (.ldc 47, 2) := by decide +kernel
theorem dL_adds_24 : decode cL_adds 24 = .ok (.ireturn, 1) := by decide +kernel
set_option maxRecDepth 20000 in
theorem ggL_drops_X3_removeKey : GoodIn wsL_drops wsX3_removeKey := goodIn_ca (goodIn_ca (goodIn_r _ [9, 10, 11, 12, 8, 13, 14, 15, 16, 17, 18, 19, 20, 21, 22, 23, 24, 25, 26, 27, 28, 29, 30, 31, 32, 33, 34, 35, 36, 37, 38, 39, 40, 41, 42, 43, 44, 45, 46, 47, 48, 49, 50, 51, 52, 53, 54, 55, 56, 57, 58, 59, 60, 61, 62, 63, 64, 65, 66, 67, 68, 69] (by decide +kernel) (by decide +kernel)) (goodIn_sub (fun _ h => List.mem_cons_of_mem _ (List.mem_append_left _ (List.mem_append_right _ h))) (by decide +kernel))) (goodIn_sub (fun _ h => List.mem_cons_of_mem _ (List.mem_append_right _ h)) (by decide +kernel))
set_option maxRecDepth 20000 in
theorem gL_drops_X3_removeKey : GoodIn wsL_drops (wsV RL 100 RX3 yX3_removeKey wsX3_removeKey) := goodIn_app (goodIn_of _ (by decide +kernel)) ggL_drops_X3_removeKey
theorem dL_drops_0 : decode cL_drops 0 = .ok (.aload_n 0, 1) := by decide +kernel
theorem dL_drops_1 : decode cL_drops 1 = .ok (.iload_n 1, 1) := by decide +kernel
theorem dL_drops_2 : decode cL_drops 2 = .ok (.iload_n 2, 1) := by decide +kernel
theorem dL_drops_3 : decode cL_drops 3 = .ok (.invokevirtual 100, 3) := by decide +kernel
theorem dL_drops_6 : decode cL_drops 6 = .ok (.ireturn, 1) := by decide +kernel
theorem dL_drops_7 : decode cL_drops 7 = .ok (.astore_n 3, 1) := by decide +kernel
theorem dL_drops_8 : decode cL_drops 8 = .ok (.ldc 55, 2) := by decide +kernel
theorem dL_drops_10 : decode cL_drops 10 = .ok (.ireturn, 1) := by decide +kernel
theorem dL_drops_11 : decode cL_drops 11 = .ok (.astore_n 3, 1) := by decide +kernel
theorem dL_drops_12 : decode cL_drops 12 = .ok (.ldc 47, 2) := by decide +kernel
theorem dL_drops_14 : decode cL_drops 14 = .ok (.ireturn, 1) := by decide +kernel
set_option maxRecDepth 20000 in
theorem ggL_sets_X3_setKey : GoodIn wsL_sets wsX3_setKey := goodIn_ca (goodIn_ca (goodIn_ca (goodIn_r _ [11, 12, 13, 14, 10, 15, 16, 17, 18, 19, 20, 21, 22, 23, 24, 25, 26, 27, 28, 29, 30, 31, 32, 33, 34, 35, 36, 37, 38, 39, 40, 41, 42, 43, 44, 45, 46, 47, 48, 49, 50, 51, 52, 53, 54, 55, 56, 57, 58, 59, 60, 61, 62, 63, 64, 65, 66, 67, 68, 69, 70, 71, 72, 73, 74, 75, 76] (by decide +kernel) (by decide +kernel)) (goodIn_sub (fun _ h => List.mem_cons_of_mem _ (List.mem_append_left _ (List.mem_append_left _ (List.mem_append_right _ h)))) (by decide +kernel))) (goodIn_sub (fun _ h => List.mem_cons_of_mem _ (List.mem_append_left _ (List.mem_append_right _ h))) (by decide +kernel))) (goodIn_sub (fun _ h => List.mem_cons_of_mem _ (List.mem_append_right _ h)) (by decide +kernel))
set_option maxRecDepth 20000 in
theorem gL_sets_X3_setKey : GoodIn wsL_sets (wsV RL 103 RX3 yX3_setKey wsX3_setKey) := goodIn_app (goodIn_of _ (by decide +kernel)) ggL_sets_X3_setKey
theorem dL_sets_0 : decode cL_sets 0 = .ok (.aload_n 0, 1) := by decide +kernel
theorem dL_sets_1 : decode cL_sets 1 = .ok (.iload_n 1, 1) := by decide +kernel
theorem dL_sets_2 : decode cL_sets 2 = .ok (.iload_n 2, 1) := by decide +kernel
theorem dL_sets_3 : decode cL_sets 3 = .ok (.iload_n 3, 1) := by decide +kernel
theorem dL_sets_4 : decode cL_sets 4 = .ok (.iload 4, 2) := by decide +kernel
theorem dL_sets_6 : decode cL_sets 6 = .ok (.invokevirtual 103, 3) := by decide +kernel
theorem dL_sets_9 : decode cL_sets 9 = .ok (.ireturn, 1) := by decide +kernel
theorem dL_sets_10 : decode cL_sets 10 = .ok (.astore 5, 2) := by decide +kernel
theorem dL_sets_12 : decode cL_sets 12 = .ok (.ldc 55, 2) := by decide +kernel
theorem dL_sets_14 : decode cL_sets 14 = .ok (.ireturn, 1) := by decide +kernel
theorem dL_sets_15 : decode cL_sets 15 = .ok (.astore 5, 2) := by decide +kernel
theorem dL_sets_17 : decode cL_sets 17 = .ok (.ldc 42, 2) := by decide +kernel
theorem dL_sets_19 : decode cL_sets 19 = .ok (.ireturn, 1) := by decide +kernel
theorem dL_sets_20 : decode cL_sets 20 = .ok (.astore 5, 2) := by decide +kernel
theorem dL_sets_22 : decode cL_sets 22 = .ok (.ldc 47, 2) := by decide +kernel
theorem dL_sets_24 : decode cL_sets 24 = .ok (.ireturn, 1) := by decide +kernel
set_option maxRecDepth 20000 in
theorem ggL_moves_X3_moveKey : GoodIn wsL_moves wsX3_moveKey := goodIn_ca (goodIn_ca (goodIn_ca (goodIn_r _ [11, 12, 13, 14, 15, 16, 10, 17, 18, 19, 20, 21, 22, 23, 24, 25, 26, 27, 28, 29, 30, 31, 32, 33, 34, 35, 36, 37, 38, 39, 40, 41, 42, 43, 44, 45, 46, 47, 48, 49, 50, 51, 52, 53, 54, 55, 56, 57, 58, 59, 60, 61, 62, 63, 64, 65, 66, 67, 68, 69, 70, 71, 72, 73, 74, 75, 76, 77, 78, 79, 80, 81, 82, 83, 84, 85, 86, 87, 88, 89, 90, 91, 92, 93, 94, 95] (by decide +kernel) (by decide +kernel)) (goodIn_sub (fun _ h => List.mem_cons_of_mem _ (List.mem_append_left _ (List.mem_append_left _ (List.mem_append_right _ h)))) (by decide +kernel))) (goodIn_sub (fun _ h => List.mem_cons_of_mem _ (List.mem_append_left _ (List.mem_append_right _ h))) (by decide +kernel))) (goodIn_sub (fun _ h => List.mem_cons_of_mem _ (List.mem_append_right _ h)) (by decide +kernel))
set_option maxRecDepth 20000 in
theorem gL_moves_X3_moveKey : GoodIn wsL_moves (wsV RL 106 RX3 yX3_moveKey wsX3_moveKey) := goodIn_app (goodIn_of _ (by decide +kernel)) ggL_moves_X3_moveKey
theorem dL_moves_0 : decode cL_moves 0 = .ok (.aload_n 0, 1) := by decide +kernel
theorem dL_moves_1 : decode cL_moves 1 = .ok (.iload_n 1, 1) := by decide +kernel
theorem dL_moves_2 : decode cL_moves 2 = .ok (.iload_n 2, 1) := by decide +kernel
theorem dL_moves_3 : decode cL_moves 3 = .ok (.iload_n 3, 1) := by decide +kernel
theorem dL_moves_4 : decode cL_moves 4 = .ok (.invokevirtual 106, 3) := by decide +kernel
theorem dL_moves_7 : decode cL_moves 7 = .ok (.ireturn, 1) := by decide +kernel
theorem dL_moves_8 : decode cL_moves 8 = .ok (.astore 4, 2) := by decide +kernel
theorem dL_moves_10 : decode cL_moves 10 = .ok (.ldc 55, 2) := by decide +kernel
theorem dL_moves_12 : decode cL_moves 12 = .ok (.ireturn, 1) := by decide +kernel
theorem dL_moves_13 : decode cL_moves 13 = .ok (.astore 4, 2) := by decide +kernel
theorem dL_moves_15 : decode cL_moves 15 = .ok (.ldc 42, 2) := by decide +kernel
theorem dL_moves_17 : decode cL_moves 17 = .ok (.ireturn, 1) := by decide +kernel
theorem dL_moves_18 : decode cL_moves 18 = .ok (.astore 4, 2) := by decide +kernel
theorem dL_moves_20 : decode cL_moves 20 = .ok (.ldc 47, 2) := by decide +kernel
theorem dL_moves_22 : decode cL_moves 22 = .ok (.ireturn, 1) := by decide +kernel
set_option maxRecDepth 20000 in
theorem ggL_leans_X3_setTangent : GoodIn wsL_leans wsX3_setTangent := goodIn_ca (goodIn_ca (goodIn_ca (goodIn_r _ [11, 12, 13, 14, 15, 16, 10, 17, 18, 19, 20, 21, 22, 23, 24, 25, 26, 27, 28, 29, 30, 31, 32, 33, 34, 35, 36, 37, 38, 39, 40, 41, 42, 43, 44, 45, 46, 47, 48, 49, 50, 51, 52, 53, 54, 55, 56, 57, 58, 59, 60, 61, 62, 63, 64, 65, 66, 67, 68, 69, 70, 71, 72, 73, 74, 75, 76, 77, 78, 79, 80, 81, 82, 83, 84] (by decide +kernel) (by decide +kernel)) (goodIn_sub (fun _ h => List.mem_cons_of_mem _ (List.mem_append_left _ (List.mem_append_left _ (List.mem_append_right _ h)))) (by decide +kernel))) (goodIn_sub (fun _ h => List.mem_cons_of_mem _ (List.mem_append_left _ (List.mem_append_right _ h))) (by decide +kernel))) (goodIn_sub (fun _ h => List.mem_cons_of_mem _ (List.mem_append_right _ h)) (by decide +kernel))
set_option maxRecDepth 20000 in
theorem gL_leans_X3_setTangent : GoodIn wsL_leans (wsV RL 110 RX3 yX3_setTangent wsX3_setTangent) := goodIn_app (goodIn_of _ (by decide +kernel)) ggL_leans_X3_setTangent
theorem dL_leans_0 : decode cL_leans 0 = .ok (.aload_n 0, 1) := by decide +kernel
theorem dL_leans_1 : decode cL_leans 1 = .ok (.iload_n 1, 1) := by decide +kernel
theorem dL_leans_2 : decode cL_leans 2 = .ok (.iload_n 2, 1) := by decide +kernel
theorem dL_leans_3 : decode cL_leans 3 = .ok (.iload_n 3, 1) := by decide +kernel
theorem dL_leans_4 : decode cL_leans 4 = .ok (.iload 4, 2) := by decide +kernel
theorem dL_leans_6 : decode cL_leans 6 = .ok (.invokevirtual 110, 3) := by decide +kernel
theorem dL_leans_9 : decode cL_leans 9 = .ok (.ireturn, 1) := by decide +kernel
theorem dL_leans_10 : decode cL_leans 10 = .ok (.astore 5, 2) := by decide +kernel
theorem dL_leans_12 : decode cL_leans 12 = .ok (.ldc 55, 2) := by decide +kernel
theorem dL_leans_14 : decode cL_leans 14 = .ok (.ireturn, 1) := by decide +kernel
theorem dL_leans_15 : decode cL_leans 15 = .ok (.astore 5, 2) := by decide +kernel
theorem dL_leans_17 : decode cL_leans 17 = .ok (.ldc 42, 2) := by decide +kernel
theorem dL_leans_19 : decode cL_leans 19 = .ok (.ireturn, 1) := by decide +kernel
theorem dL_leans_20 : decode cL_leans 20 = .ok (.astore 5, 2) := by decide +kernel
theorem dL_leans_22 : decode cL_leans 22 = .ok (.ldc 47, 2) := by decide +kernel
theorem dL_leans_24 : decode cL_leans 24 = .ok (.ireturn, 1) := by decide +kernel
set_option maxRecDepth 20000 in
theorem ggL_locks_X3_lock : GoodIn wsL_locks wsX3_lock := goodIn_ca (goodIn_r _ [7, 8, 9, 10, 6, 11, 12, 13, 14, 15, 16, 17, 18, 19, 20, 21, 22, 23, 24, 25, 26, 27, 28, 29, 30, 31, 32, 33, 34, 35, 36, 37, 38, 39, 40, 41, 42, 43, 44, 45, 46, 47, 48, 49, 50, 51, 52, 53, 54, 55, 56, 57, 58] (by decide +kernel) (by decide +kernel)) (goodIn_sub (fun _ h => List.mem_cons_of_mem _ (List.mem_append_right _ h)) (by decide +kernel))
set_option maxRecDepth 20000 in
theorem gL_locks_X3_lock : GoodIn wsL_locks (wsV RL 113 RX3 yX3_lock wsX3_lock) := goodIn_app (goodIn_of _ (by decide +kernel)) ggL_locks_X3_lock
theorem dL_locks_0 : decode cL_locks 0 = .ok (.aload_n 0, 1) := by decide +kernel
theorem dL_locks_1 : decode cL_locks 1 = .ok (.iload_n 1, 1) := by decide +kernel
theorem dL_locks_2 : decode cL_locks 2 = .ok (.iload_n 2, 1) := by decide +kernel
theorem dL_locks_3 : decode cL_locks 3 = .ok (.iload_n 3, 1) := by decide +kernel
theorem dL_locks_4 : decode cL_locks 4 = .ok (.invokevirtual 113, 3) := by decide +kernel
theorem dL_locks_7 : decode cL_locks 7 = .ok (.ireturn, 1) := by decide +kernel
theorem dL_locks_8 : decode cL_locks 8 = .ok (.astore 4, 2) := by decide +kernel
theorem dL_locks_10 : decode cL_locks 10 = .ok (.ldc 55, 2) := by decide +kernel
theorem dL_locks_12 : decode cL_locks 12 = .ok (.ireturn, 1) := by decide +kernel
set_option maxRecDepth 20000 in
theorem ggL_stretches_X3_stretch : GoodIn wsL_stretches wsX3_stretch := goodIn_ca (goodIn_ca (goodIn_ca (goodIn_r _ [11, 12, 13, 14, 15, 16, 10, 17, 18, 19, 20, 21, 22, 23, 24, 25, 26, 27, 28, 29, 30, 31, 32, 33, 34, 35, 36, 37, 38, 39, 40, 41, 42, 43, 44, 45, 46, 47, 48, 49, 50, 51, 52, 53, 54, 55, 56, 57, 58, 59, 60, 61, 62, 63, 64, 65, 66, 67, 68, 69, 70, 71, 72, 73, 74, 75, 76, 77, 78, 79, 80, 81, 82, 83, 84] (by decide +kernel) (by decide +kernel)) (goodIn_sub (fun _ h => List.mem_cons_of_mem _ (List.mem_append_left _ (List.mem_append_left _ (List.mem_append_right _ h)))) (by decide +kernel))) (goodIn_sub (fun _ h => List.mem_cons_of_mem _ (List.mem_append_left _ (List.mem_append_right _ h))) (by decide +kernel))) (goodIn_sub (fun _ h => List.mem_cons_of_mem _ (List.mem_append_right _ h)) (by decide +kernel))
set_option maxRecDepth 20000 in
theorem gL_stretches_X3_stretch : GoodIn wsL_stretches (wsV RL 117 RX3 yX3_stretch wsX3_stretch) := goodIn_app (goodIn_of _ (by decide +kernel)) ggL_stretches_X3_stretch
theorem dL_stretches_0 : decode cL_stretches 0 = .ok (.aload_n 0, 1) := by decide +kernel
theorem dL_stretches_1 : decode cL_stretches 1 = .ok (.iload_n 1, 1) := by decide +kernel
theorem dL_stretches_2 : decode cL_stretches 2 = .ok (.iload_n 2, 1) := by decide +kernel
theorem dL_stretches_3 : decode cL_stretches 3 = .ok (.iload_n 3, 1) := by decide +kernel
theorem dL_stretches_4 : decode cL_stretches 4 = .ok (.iload 4, 2) := by decide +kernel
theorem dL_stretches_6 : decode cL_stretches 6 = .ok (.invokevirtual 117, 3) := by decide +kernel
theorem dL_stretches_9 : decode cL_stretches 9 = .ok (.ireturn, 1) := by decide +kernel
theorem dL_stretches_10 : decode cL_stretches 10 = .ok (.astore 5, 2) := by decide +kernel
theorem dL_stretches_12 : decode cL_stretches 12 = .ok (.ldc 55, 2) := by decide +kernel
theorem dL_stretches_14 : decode cL_stretches 14 = .ok (.ireturn, 1) := by decide +kernel
theorem dL_stretches_15 : decode cL_stretches 15 = .ok (.astore 5, 2) := by decide +kernel
theorem dL_stretches_17 : decode cL_stretches 17 = .ok (.ldc 42, 2) := by decide +kernel
theorem dL_stretches_19 : decode cL_stretches 19 = .ok (.ireturn, 1) := by decide +kernel
theorem dL_stretches_20 : decode cL_stretches 20 = .ok (.astore 5, 2) := by decide +kernel
theorem dL_stretches_22 : decode cL_stretches 22 = .ok (.ldc 47, 2) := by decide +kernel
theorem dL_stretches_24 : decode cL_stretches 24 = .ok (.ireturn, 1) := by decide +kernel
set_option maxRecDepth 20000 in
theorem ggL_copies_X3_copy : GoodIn wsL_copies wsX3_copy := goodIn_ca (goodIn_ca (goodIn_ca (goodIn_r _ [11, 12, 13, 14, 15, 16, 10, 17, 18, 19, 20, 21, 22, 23, 24, 25, 26, 27, 28, 29, 30, 31, 32, 33, 34, 35, 36, 37, 38, 39, 40, 41, 42, 43, 44, 45, 46, 47, 48, 49, 50, 51, 52, 53, 54, 55, 56, 57, 58, 59, 60, 61, 62, 63, 64, 65, 66, 67, 68, 69, 70, 71, 72, 73, 74, 75, 76, 77, 78, 79, 80, 81, 82, 83, 84, 85, 86, 87, 88] (by decide +kernel) (by decide +kernel)) (goodIn_sub (fun _ h => List.mem_cons_of_mem _ (List.mem_append_left _ (List.mem_append_left _ (List.mem_append_right _ h)))) (by decide +kernel))) (goodIn_sub (fun _ h => List.mem_cons_of_mem _ (List.mem_append_left _ (List.mem_append_right _ h))) (by decide +kernel))) (goodIn_sub (fun _ h => List.mem_cons_of_mem _ (List.mem_append_right _ h)) (by decide +kernel))
set_option maxRecDepth 20000 in
theorem gL_copies_X3_copy : GoodIn wsL_copies (wsV RL 120 RX3 yX3_copy wsX3_copy) := goodIn_app (goodIn_of _ (by decide +kernel)) ggL_copies_X3_copy
theorem dL_copies_0 : decode cL_copies 0 = .ok (.aload_n 0, 1) := by decide +kernel
theorem dL_copies_1 : decode cL_copies 1 = .ok (.iload_n 1, 1) := by decide +kernel
theorem dL_copies_2 : decode cL_copies 2 = .ok (.iload_n 2, 1) := by decide +kernel
theorem dL_copies_3 : decode cL_copies 3 = .ok (.iload_n 3, 1) := by decide +kernel
theorem dL_copies_4 : decode cL_copies 4 = .ok (.invokevirtual 120, 3) := by decide +kernel
theorem dL_copies_7 : decode cL_copies 7 = .ok (.ireturn, 1) := by decide +kernel
theorem dL_copies_8 : decode cL_copies 8 = .ok (.astore 4, 2) := by decide +kernel
theorem dL_copies_10 : decode cL_copies 10 = .ok (.ldc 55, 2) := by decide +kernel
theorem dL_copies_12 : decode cL_copies 12 = .ok (.ireturn, 1) := by decide +kernel
theorem dL_copies_13 : decode cL_copies 13 = .ok (.astore 4, 2) := by decide +kernel
theorem dL_copies_15 : decode cL_copies 15 = .ok (.ldc 42, 2) := by decide +kernel
theorem dL_copies_17 : decode cL_copies 17 = .ok (.ireturn, 1) := by decide +kernel
theorem dL_copies_18 : decode cL_copies 18 = .ok (.astore 4, 2) := by decide +kernel
theorem dL_copies_20 : decode cL_copies 20 = .ok (.ldc 47, 2) := by decide +kernel
theorem dL_copies_22 : decode cL_copies 22 = .ok (.ireturn, 1) := by decide +kernel
set_option maxRecDepth 20000 in
theorem ggL_keyOf_X3_key : GoodIn wsL_keyOf wsX3_key := goodIn_ca (goodIn_ca (goodIn_r _ [9, 10, 11, 12, 8, 13, 14, 15, 16, 17, 18, 19, 20, 21, 22, 23, 24, 25, 26, 27, 28, 29, 30, 31, 32, 33, 34, 35, 36, 37, 38, 39, 40, 41, 42, 43, 44, 45, 46, 47, 48, 49, 50] (by decide +kernel) (by decide +kernel)) (goodIn_sub (fun _ h => List.mem_cons_of_mem _ (List.mem_append_left _ (List.mem_append_right _ h))) (by decide +kernel))) (goodIn_sub (fun _ h => List.mem_cons_of_mem _ (List.mem_append_right _ h)) (by decide +kernel))
set_option maxRecDepth 20000 in
theorem gL_keyOf_X3_key : GoodIn wsL_keyOf (wsV RL 123 RX3 yX3_key wsX3_key) := goodIn_app (goodIn_of _ (by decide +kernel)) ggL_keyOf_X3_key
theorem dL_keyOf_0 : decode cL_keyOf 0 = .ok (.aload_n 0, 1) := by decide +kernel
theorem dL_keyOf_1 : decode cL_keyOf 1 = .ok (.iload_n 1, 1) := by decide +kernel
theorem dL_keyOf_2 : decode cL_keyOf 2 = .ok (.iload_n 2, 1) := by decide +kernel
theorem dL_keyOf_3 : decode cL_keyOf 3 = .ok (.iload_n 3, 1) := by decide +kernel
theorem dL_keyOf_4 : decode cL_keyOf 4 = .ok (.invokevirtual 123, 3) := by decide +kernel
theorem dL_keyOf_7 : decode cL_keyOf 7 = .ok (.ireturn, 1) := by decide +kernel
theorem dL_keyOf_8 : decode cL_keyOf 8 = .ok (.astore 4, 2) := by decide +kernel
theorem dL_keyOf_10 : decode cL_keyOf 10 = .ok (.ldc 55, 2) := by decide +kernel
theorem dL_keyOf_12 : decode cL_keyOf 12 = .ok (.ireturn, 1) := by decide +kernel
theorem dL_keyOf_13 : decode cL_keyOf 13 = .ok (.astore 4, 2) := by decide +kernel
theorem dL_keyOf_15 : decode cL_keyOf 15 = .ok (.ldc 42, 2) := by decide +kernel
theorem dL_keyOf_17 : decode cL_keyOf 17 = .ok (.ireturn, 1) := by decide +kernel
set_option maxRecDepth 20000 in
theorem ggL_valueOf_X3_value : GoodIn wsL_valueOf wsX3_value := goodIn_ca (goodIn_ca (goodIn_r _ [9, 10, 11, 12, 8, 13, 14, 15, 16, 17, 18, 19, 20, 21, 22, 23, 24, 25, 26, 27, 28, 29, 30, 31, 32, 33, 34, 35, 36, 37, 38, 39, 40, 41, 42, 43, 44, 45, 46, 47, 48, 49, 50, 51, 52, 53, 54, 55, 56, 57, 58, 59, 60, 61, 62, 63, 64, 65, 66, 67, 68, 69] (by decide +kernel) (by decide +kernel)) (goodIn_sub (fun _ h => List.mem_cons_of_mem _ (List.mem_append_left _ (List.mem_append_right _ h))) (by decide +kernel))) (goodIn_sub (fun _ h => List.mem_cons_of_mem _ (List.mem_append_right _ h)) (by decide +kernel))
set_option maxRecDepth 20000 in
theorem gL_valueOf_X3_value : GoodIn wsL_valueOf (wsV RL 126 RX3 yX3_value wsX3_value) := goodIn_app (goodIn_of _ (by decide +kernel)) ggL_valueOf_X3_value
theorem dL_valueOf_0 : decode cL_valueOf 0 = .ok (.aload_n 0, 1) := by decide +kernel
theorem dL_valueOf_1 : decode cL_valueOf 1 = .ok (.iload_n 1, 1) := by decide +kernel
theorem dL_valueOf_2 : decode cL_valueOf 2 = .ok (.iload_n 2, 1) := by decide +kernel
theorem dL_valueOf_3 : decode cL_valueOf 3 = .ok (.invokevirtual 126, 3) := by decide +kernel
theorem dL_valueOf_6 : decode cL_valueOf 6 = .ok (.ireturn, 1) := by decide +kernel
theorem dL_valueOf_7 : decode cL_valueOf 7 = .ok (.astore_n 3, 1) := by decide +kernel
theorem dL_valueOf_8 : decode cL_valueOf 8 = .ok (.ldc 55, 2) := by decide +kernel
theorem dL_valueOf_10 : decode cL_valueOf 10 = .ok (.ireturn, 1) := by decide +kernel
theorem dL_valueOf_11 : decode cL_valueOf 11 = .ok (.astore_n 3, 1) := by decide +kernel
theorem dL_valueOf_12 : decode cL_valueOf 12 = .ok (.ldc 42, 2) := by decide +kernel
theorem dL_valueOf_14 : decode cL_valueOf 14 = .ok (.ireturn, 1) := by decide +kernel
