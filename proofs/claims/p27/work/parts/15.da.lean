/-! ===== the law's own steps, 1 ===== -/
theorem dL_cell_0 : decode cL_cell 0 = .ok (.iload_n 1, 1) := by decide +kernel
theorem dL_cell_1 : decode cL_cell 1 = .ok (.aload_n 0, 1) := by decide +kernel
theorem dL_cell_2 : decode cL_cell 2 = .ok (.arraylength, 1) := by decide +kernel
theorem dL_cell_3 : decode cL_cell 3 = .ok (.if_icmp .ge 9, 3) := by decide +kernel
theorem dL_cell_6 : decode cL_cell 6 = .ok (.aload_n 0, 1) := by decide +kernel
theorem dL_cell_7 : decode cL_cell 7 = .ok (.iload_n 1, 1) := by decide +kernel
theorem dL_cell_8 : decode cL_cell 8 = .ok (.iaload, 1) := by decide +kernel
theorem dL_cell_9 : decode cL_cell 9 = .ok (.goto 9, 3) := by decide +kernel
theorem dL_cell_12 : decode cL_cell 12 = .ok (.ldc 7, 2) := by decide +kernel
theorem dL_cell_14 : decode cL_cell 14 = .ok (.iload_n 1, 1) := by decide +kernel
theorem dL_cell_15 : decode cL_cell 15 = .ok (.iconst 3, 1) := by decide +kernel
theorem dL_cell_16 : decode cL_cell 16 = .ok (.iadd, 1) := by decide +kernel
theorem dL_cell_17 : decode cL_cell 17 = .ok (.imul, 1) := by decide +kernel
theorem dL_cell_18 : decode cL_cell 18 = .ok (.ireturn, 1) := by decide +kernel
theorem dL_low_0 : decode cL_low 0 = .ok (.iload_n 0, 1) := by decide +kernel
theorem dL_low_1 : decode cL_low 1 = .ok (.ldc 8, 2) := by decide +kernel
theorem dL_low_3 : decode cL_low 3 = .ok (.iand, 1) := by decide +kernel
theorem dL_low_4 : decode cL_low 4 = .ok (.iload_n 1, 1) := by decide +kernel
theorem dL_low_5 : decode cL_low 5 = .ok (.irem, 1) := by decide +kernel
theorem dL_low_6 : decode cL_low 6 = .ok (.ireturn, 1) := by decide +kernel
theorem dL_tangent_0 : decode cL_tangent 0 = .ok (.bipush 8, 2) := by decide +kernel
theorem dL_tangent_2 : decode cL_tangent 2 = .ok (.iload 5, 2) := by decide +kernel
theorem dL_tangent_4 : decode cL_tangent 4 = .ok (.imul, 1) := by decide +kernel
theorem dL_tangent_5 : decode cL_tangent 5 = .ok (.iload 6, 2) := by decide +kernel
theorem dL_tangent_7 : decode cL_tangent 7 = .ok (.iadd, 1) := by decide +kernel
theorem dL_tangent_8 : decode cL_tangent 8 = .ok (.istore 7, 2) := by decide +kernel
theorem dL_tangent_10 : decode cL_tangent 10 = .ok (.aload_n 3, 1) := by decide +kernel
theorem dL_tangent_11 : decode cL_tangent 11 = .ok (.iload 7, 2) := by decide +kernel
theorem dL_tangent_13 : decode cL_tangent 13 = .ok (.iaload, 1) := by decide +kernel
theorem dL_tangent_14 : decode cL_tangent 14 = .ok (.bipush 10, 2) := by decide +kernel
theorem dL_tangent_16 : decode cL_tangent 16 = .ok (.idiv, 1) := by decide +kernel
theorem dL_tangent_17 : decode cL_tangent 17 = .ok (.bipush 10, 2) := by decide +kernel
theorem dL_tangent_19 : decode cL_tangent 19 = .ok (.irem, 1) := by decide +kernel
theorem dL_tangent_20 : decode cL_tangent 20 = .ok (.istore 8, 2) := by decide +kernel
theorem dL_tangent_22 : decode cL_tangent 22 = .ok (.iload 8, 2) := by decide +kernel
theorem dL_tangent_24 : decode cL_tangent 24 = .ok (.ifCond .eq 19, 3) := by decide +kernel
theorem dL_tangent_27 : decode cL_tangent 27 = .ok (.iload 6, 2) := by decide +kernel
theorem dL_tangent_29 : decode cL_tangent 29 = .ok (.ifCond .eq 14, 3) := by decide +kernel
theorem dL_tangent_32 : decode cL_tangent 32 = .ok (.iload 6, 2) := by decide +kernel
theorem dL_tangent_34 : decode cL_tangent 34 = .ok (.aload_n 0, 1) := by decide +kernel
theorem dL_tangent_35 : decode cL_tangent 35 = .ok (.iload 5, 2) := by decide +kernel
theorem dL_tangent_37 : decode cL_tangent 37 = .ok (.iaload, 1) := by decide +kernel
theorem dL_tangent_38 : decode cL_tangent 38 = .ok (.iconst 1, 1) := by decide +kernel
theorem dL_tangent_39 : decode cL_tangent 39 = .ok (.isub, 1) := by decide +kernel
theorem dL_tangent_40 : decode cL_tangent 40 = .ok (.if_icmp .ne 18, 3) := by decide +kernel
theorem dL_tangent_43 : decode cL_tangent 43 = .ok (.iload 8, 2) := by decide +kernel
theorem dL_tangent_45 : decode cL_tangent 45 = .ok (.ifCond .ne 11, 3) := by decide +kernel
theorem dL_tangent_48 : decode cL_tangent 48 = .ok (.aload 4, 2) := by decide +kernel
theorem dL_tangent_50 : decode cL_tangent 50 = .ok (.iload 7, 2) := by decide +kernel
theorem dL_tangent_52 : decode cL_tangent 52 = .ok (.iaload, 1) := by decide +kernel
theorem dL_tangent_53 : decode cL_tangent 53 = .ok (.goto 4, 3) := by decide +kernel
theorem dL_tangent_56 : decode cL_tangent 56 = .ok (.iconst 0, 1) := by decide +kernel
theorem dL_tangent_57 : decode cL_tangent 57 = .ok (.ireturn, 1) := by decide +kernel
theorem dL_tangent_58 : decode cL_tangent 58 = .ok (.aload_n 2, 1) := by decide +kernel
theorem dL_tangent_59 : decode cL_tangent 59 = .ok (.iload 7, 2) := by decide +kernel
theorem dL_tangent_61 : decode cL_tangent 61 = .ok (.iaload, 1) := by decide +kernel
theorem dL_tangent_62 : decode cL_tangent 62 = .ok (.aload_n 2, 1) := by decide +kernel
theorem dL_tangent_63 : decode cL_tangent 63 = .ok (.iload 7, 2) := by decide +kernel
theorem dL_tangent_65 : decode cL_tangent 65 = .ok (.iconst 1, 1) := by decide +kernel
theorem dL_tangent_66 : decode cL_tangent 66 = .ok (.isub, 1) := by decide +kernel
theorem dL_tangent_67 : decode cL_tangent 67 = .ok (.iaload, 1) := by decide +kernel
theorem dL_tangent_68 : decode cL_tangent 68 = .ok (.isub, 1) := by decide +kernel
theorem dL_tangent_69 : decode cL_tangent 69 = .ok (.istore 9, 2) := by decide +kernel
theorem dL_tangent_71 : decode cL_tangent 71 = .ok (.aload_n 2, 1) := by decide +kernel
theorem dL_tangent_72 : decode cL_tangent 72 = .ok (.iload 7, 2) := by decide +kernel
theorem dL_tangent_74 : decode cL_tangent 74 = .ok (.iconst 1, 1) := by decide +kernel
theorem dL_tangent_75 : decode cL_tangent 75 = .ok (.iadd, 1) := by decide +kernel
theorem dL_tangent_76 : decode cL_tangent 76 = .ok (.iaload, 1) := by decide +kernel
theorem dL_tangent_77 : decode cL_tangent 77 = .ok (.aload_n 2, 1) := by decide +kernel
theorem dL_tangent_78 : decode cL_tangent 78 = .ok (.iload 7, 2) := by decide +kernel
theorem dL_tangent_80 : decode cL_tangent 80 = .ok (.iaload, 1) := by decide +kernel
theorem dL_tangent_81 : decode cL_tangent 81 = .ok (.isub, 1) := by decide +kernel
theorem dL_tangent_82 : decode cL_tangent 82 = .ok (.istore 10, 2) := by decide +kernel
theorem dL_tangent_84 : decode cL_tangent 84 = .ok (.iload 9, 2) := by decide +kernel
theorem dL_tangent_86 : decode cL_tangent 86 = .ok (.ifCond .le 8, 3) := by decide +kernel
theorem dL_tangent_89 : decode cL_tangent 89 = .ok (.iload 10, 2) := by decide +kernel
theorem dL_tangent_91 : decode cL_tangent 91 = .ok (.ifCond .gt 13, 3) := by decide +kernel
theorem dL_tangent_94 : decode cL_tangent 94 = .ok (.iload 9, 2) := by decide +kernel
theorem dL_tangent_96 : decode cL_tangent 96 = .ok (.ifCond .ge 12, 3) := by decide +kernel
theorem dL_tangent_99 : decode cL_tangent 99 = .ok (.iload 10, 2) := by decide +kernel
theorem dL_tangent_101 : decode cL_tangent 101 = .ok (.ifCond .ge 7, 3) := by decide +kernel
theorem dL_tangent_104 : decode cL_tangent 104 = .ok (.iconst 1, 1) := by decide +kernel
theorem dL_tangent_105 : decode cL_tangent 105 = .ok (.goto 4, 3) := by decide +kernel
theorem dL_tangent_108 : decode cL_tangent 108 = .ok (.iconst 0, 1) := by decide +kernel
theorem dL_tangent_109 : decode cL_tangent 109 = .ok (.istore 11, 2) := by decide +kernel
theorem dL_tangent_111 : decode cL_tangent 111 = .ok (.iload 8, 2) := by decide +kernel
theorem dL_tangent_113 : decode cL_tangent 113 = .ok (.iconst 2, 1) := by decide +kernel
theorem dL_tangent_114 : decode cL_tangent 114 = .ok (.if_icmp .ne 12, 3) := by decide +kernel
theorem dL_tangent_117 : decode cL_tangent 117 = .ok (.iload 11, 2) := by decide +kernel
theorem dL_tangent_119 : decode cL_tangent 119 = .ok (.ifCond .ne 7, 3) := by decide +kernel
theorem dL_tangent_122 : decode cL_tangent 122 = .ok (.iconst 0, 1) := by decide +kernel
theorem dL_tangent_123 : decode cL_tangent 123 = .ok (.goto 26, 3) := by decide +kernel
theorem dL_tangent_126 : decode cL_tangent 126 = .ok (.sipush 1000, 3) := by decide +kernel
theorem dL_tangent_129 : decode cL_tangent 129 = .ok (.iload 9, 2) := by decide +kernel
theorem dL_tangent_131 : decode cL_tangent 131 = .ok (.iload 10, 2) := by decide +kernel
theorem dL_tangent_133 : decode cL_tangent 133 = .ok (.iadd, 1) := by decide +kernel
theorem dL_tangent_134 : decode cL_tangent 134 = .ok (.imul, 1) := by decide +kernel
theorem dL_tangent_135 : decode cL_tangent 135 = .ok (.aload_n 1, 1) := by decide +kernel
theorem dL_tangent_136 : decode cL_tangent 136 = .ok (.iload 7, 2) := by decide +kernel
theorem dL_tangent_138 : decode cL_tangent 138 = .ok (.iconst 1, 1) := by decide +kernel
theorem dL_tangent_139 : decode cL_tangent 139 = .ok (.iadd, 1) := by decide +kernel
theorem dL_tangent_140 : decode cL_tangent 140 = .ok (.iaload, 1) := by decide +kernel
theorem dL_tangent_141 : decode cL_tangent 141 = .ok (.aload_n 1, 1) := by decide +kernel
theorem dL_tangent_142 : decode cL_tangent 142 = .ok (.iload 7, 2) := by decide +kernel
theorem dL_tangent_144 : decode cL_tangent 144 = .ok (.iconst 1, 1) := by decide +kernel
theorem dL_tangent_145 : decode cL_tangent 145 = .ok (.isub, 1) := by decide +kernel
theorem dL_tangent_146 : decode cL_tangent 146 = .ok (.iaload, 1) := by decide +kernel
theorem dL_tangent_147 : decode cL_tangent 147 = .ok (.isub, 1) := by decide +kernel
theorem dL_tangent_148 : decode cL_tangent 148 = .ok (.idiv, 1) := by decide +kernel
theorem dL_tangent_149 : decode cL_tangent 149 = .ok (.ireturn, 1) := by decide +kernel
set_option maxRecDepth 20000 in
theorem ggL_value_L_tangent : GoodIn wsL_value wsL_tangent := goodIn_r _ [9] (by decide +kernel) (by decide +kernel)
set_option maxRecDepth 20000 in
theorem gL_value_L_tangent : GoodIn wsL_value (va_wsS RL 19 yL_tangent wsL_tangent) := goodIn_app (goodIn_of _ (by decide +kernel)) ggL_value_L_tangent
theorem dL_value_0 : decode cL_value 0 = .ok (.bipush 8, 2) := by decide +kernel
theorem dL_value_2 : decode cL_value 2 = .ok (.iload 5, 2) := by decide +kernel
theorem dL_value_4 : decode cL_value 4 = .ok (.imul, 1) := by decide +kernel
theorem dL_value_5 : decode cL_value 5 = .ok (.istore 7, 2) := by decide +kernel
theorem dL_value_7 : decode cL_value 7 = .ok (.aload_n 0, 1) := by decide +kernel
theorem dL_value_8 : decode cL_value 8 = .ok (.iload 5, 2) := by decide +kernel
theorem dL_value_10 : decode cL_value 10 = .ok (.iaload, 1) := by decide +kernel
theorem dL_value_11 : decode cL_value 11 = .ok (.istore 8, 2) := by decide +kernel
theorem dL_value_13 : decode cL_value 13 = .ok (.iload 8, 2) := by decide +kernel
theorem dL_value_15 : decode cL_value 15 = .ok (.ifCond .eq 12, 3) := by decide +kernel
theorem dL_value_18 : decode cL_value 18 = .ok (.iload 6, 2) := by decide +kernel
theorem dL_value_20 : decode cL_value 20 = .ok (.aload_n 1, 1) := by decide +kernel
theorem dL_value_21 : decode cL_value 21 = .ok (.iload 7, 2) := by decide +kernel
theorem dL_value_23 : decode cL_value 23 = .ok (.iaload, 1) := by decide +kernel
theorem dL_value_24 : decode cL_value 24 = .ok (.if_icmp .gt 17, 3) := by decide +kernel
theorem dL_value_27 : decode cL_value 27 = .ok (.iload 8, 2) := by decide +kernel
theorem dL_value_29 : decode cL_value 29 = .ok (.ifCond .ne 7, 3) := by decide +kernel
theorem dL_value_32 : decode cL_value 32 = .ok (.iconst 0, 1) := by decide +kernel
theorem dL_value_33 : decode cL_value 33 = .ok (.goto 7, 3) := by decide +kernel
theorem dL_value_36 : decode cL_value 36 = .ok (.aload_n 2, 1) := by decide +kernel
theorem dL_value_37 : decode cL_value 37 = .ok (.iload 7, 2) := by decide +kernel
theorem dL_value_39 : decode cL_value 39 = .ok (.iaload, 1) := by decide +kernel
theorem dL_value_40 : decode cL_value 40 = .ok (.ireturn, 1) := by decide +kernel
theorem dL_value_41 : decode cL_value 41 = .ok (.iload 6, 2) := by decide +kernel
theorem dL_value_43 : decode cL_value 43 = .ok (.aload_n 1, 1) := by decide +kernel
theorem dL_value_44 : decode cL_value 44 = .ok (.iload 7, 2) := by decide +kernel
theorem dL_value_46 : decode cL_value 46 = .ok (.iload 8, 2) := by decide +kernel
theorem dL_value_48 : decode cL_value 48 = .ok (.iadd, 1) := by decide +kernel
theorem dL_value_49 : decode cL_value 49 = .ok (.iconst 1, 1) := by decide +kernel
theorem dL_value_50 : decode cL_value 50 = .ok (.isub, 1) := by decide +kernel
theorem dL_value_51 : decode cL_value 51 = .ok (.iaload, 1) := by decide +kernel
theorem dL_value_52 : decode cL_value 52 = .ok (.if_icmp .lt 13, 3) := by decide +kernel
theorem dL_value_55 : decode cL_value 55 = .ok (.aload_n 2, 1) := by decide +kernel
theorem dL_value_56 : decode cL_value 56 = .ok (.iload 7, 2) := by decide +kernel
theorem dL_value_58 : decode cL_value 58 = .ok (.iload 8, 2) := by decide +kernel
theorem dL_value_60 : decode cL_value 60 = .ok (.iadd, 1) := by decide +kernel
theorem dL_value_61 : decode cL_value 61 = .ok (.iconst 1, 1) := by decide +kernel
theorem dL_value_62 : decode cL_value 62 = .ok (.isub, 1) := by decide +kernel
theorem dL_value_63 : decode cL_value 63 = .ok (.iaload, 1) := by decide +kernel
theorem dL_value_64 : decode cL_value 64 = .ok (.ireturn, 1) := by decide +kernel
theorem dL_value_65 : decode cL_value 65 = .ok (.iconst 0, 1) := by decide +kernel
theorem dL_value_66 : decode cL_value 66 = .ok (.istore 9, 2) := by decide +kernel
theorem dL_value_68 : decode cL_value 68 = .ok (.aload_n 1, 1) := by decide +kernel
theorem dL_value_69 : decode cL_value 69 = .ok (.iload 7, 2) := by decide +kernel
theorem dL_value_71 : decode cL_value 71 = .ok (.iload 9, 2) := by decide +kernel
theorem dL_value_73 : decode cL_value 73 = .ok (.iadd, 1) := by decide +kernel
theorem dL_value_74 : decode cL_value 74 = .ok (.iconst 1, 1) := by decide +kernel
theorem dL_value_75 : decode cL_value 75 = .ok (.iadd, 1) := by decide +kernel
theorem dL_value_76 : decode cL_value 76 = .ok (.iaload, 1) := by decide +kernel
theorem dL_value_77 : decode cL_value 77 = .ok (.iload 6, 2) := by decide +kernel
theorem dL_value_79 : decode cL_value 79 = .ok (.if_icmp .gt 9, 3) := by decide +kernel
theorem dL_value_82 : decode cL_value 82 = .ok (.iinc 9 1, 3) := by decide +kernel
theorem dL_value_85 : decode cL_value 85 = .ok (.goto (-17), 3) := by decide +kernel
theorem dL_value_88 : decode cL_value 88 = .ok (.aload_n 1, 1) := by decide +kernel
theorem dL_value_89 : decode cL_value 89 = .ok (.iload 7, 2) := by decide +kernel
theorem dL_value_91 : decode cL_value 91 = .ok (.iload 9, 2) := by decide +kernel
theorem dL_value_93 : decode cL_value 93 = .ok (.iadd, 1) := by decide +kernel
theorem dL_value_94 : decode cL_value 94 = .ok (.iconst 1, 1) := by decide +kernel
theorem dL_value_95 : decode cL_value 95 = .ok (.iadd, 1) := by decide +kernel
theorem dL_value_96 : decode cL_value 96 = .ok (.iaload, 1) := by decide +kernel
theorem dL_value_97 : decode cL_value 97 = .ok (.aload_n 1, 1) := by decide +kernel
theorem dL_value_98 : decode cL_value 98 = .ok (.iload 7, 2) := by decide +kernel
theorem dL_value_100 : decode cL_value 100 = .ok (.iload 9, 2) := by decide +kernel
theorem dL_value_102 : decode cL_value 102 = .ok (.iadd, 1) := by decide +kernel
theorem dL_value_103 : decode cL_value 103 = .ok (.iaload, 1) := by decide +kernel
theorem dL_value_104 : decode cL_value 104 = .ok (.isub, 1) := by decide +kernel
theorem dL_value_105 : decode cL_value 105 = .ok (.i2l, 1) := by decide +kernel
theorem dL_value_106 : decode cL_value 106 = .ok (.lstore 10, 2) := by decide +kernel
theorem dL_value_108 : decode cL_value 108 = .ok (.ldc2_w 9, 3) := by decide +kernel
theorem dL_value_111 : decode cL_value 111 = .ok (.iload 6, 2) := by decide +kernel
theorem dL_value_113 : decode cL_value 113 = .ok (.aload_n 1, 1) := by decide +kernel
theorem dL_value_114 : decode cL_value 114 = .ok (.iload 7, 2) := by decide +kernel
theorem dL_value_116 : decode cL_value 116 = .ok (.iload 9, 2) := by decide +kernel
theorem dL_value_118 : decode cL_value 118 = .ok (.iadd, 1) := by decide +kernel
theorem dL_value_119 : decode cL_value 119 = .ok (.iaload, 1) := by decide +kernel
theorem dL_value_120 : decode cL_value 120 = .ok (.isub, 1) := by decide +kernel
theorem dL_value_121 : decode cL_value 121 = .ok (.i2l, 1) := by decide +kernel
theorem dL_value_122 : decode cL_value 122 = .ok (.lmul, 1) := by decide +kernel
theorem dL_value_123 : decode cL_value 123 = .ok (.lload 10, 2) := by decide +kernel
theorem dL_value_125 : decode cL_value 125 = .ok (.ldiv, 1) := by decide +kernel
theorem dL_value_126 : decode cL_value 126 = .ok (.lstore 12, 2) := by decide +kernel
theorem dL_value_128 : decode cL_value 128 = .ok (.aload_n 2, 1) := by decide +kernel
theorem dL_value_129 : decode cL_value 129 = .ok (.iload 7, 2) := by decide +kernel
theorem dL_value_131 : decode cL_value 131 = .ok (.iload 9, 2) := by decide +kernel
theorem dL_value_133 : decode cL_value 133 = .ok (.iadd, 1) := by decide +kernel
theorem dL_value_134 : decode cL_value 134 = .ok (.iconst 1, 1) := by decide +kernel
theorem dL_value_135 : decode cL_value 135 = .ok (.iadd, 1) := by decide +kernel
theorem dL_value_136 : decode cL_value 136 = .ok (.iaload, 1) := by decide +kernel
theorem dL_value_137 : decode cL_value 137 = .ok (.aload_n 2, 1) := by decide +kernel
theorem dL_value_138 : decode cL_value 138 = .ok (.iload 7, 2) := by decide +kernel
theorem dL_value_140 : decode cL_value 140 = .ok (.iload 9, 2) := by decide +kernel
theorem dL_value_142 : decode cL_value 142 = .ok (.iadd, 1) := by decide +kernel
theorem dL_value_143 : decode cL_value 143 = .ok (.iaload, 1) := by decide +kernel
theorem dL_value_144 : decode cL_value 144 = .ok (.isub, 1) := by decide +kernel
theorem dL_value_145 : decode cL_value 145 = .ok (.i2l, 1) := by decide +kernel
theorem dL_value_146 : decode cL_value 146 = .ok (.lstore 14, 2) := by decide +kernel
theorem dL_value_148 : decode cL_value 148 = .ok (.ldc2_w 9, 3) := by decide +kernel
theorem dL_value_151 : decode cL_value 151 = .ok (.lload 12, 2) := by decide +kernel
theorem dL_value_153 : decode cL_value 153 = .ok (.lsub, 1) := by decide +kernel
theorem dL_value_154 : decode cL_value 154 = .ok (.lstore 16, 2) := by decide +kernel
theorem dL_value_156 : decode cL_value 156 = .ok (.aload_n 3, 1) := by decide +kernel
theorem dL_value_157 : decode cL_value 157 = .ok (.iload 7, 2) := by decide +kernel
theorem dL_value_159 : decode cL_value 159 = .ok (.iload 9, 2) := by decide +kernel
theorem dL_value_161 : decode cL_value 161 = .ok (.iadd, 1) := by decide +kernel
theorem dL_value_162 : decode cL_value 162 = .ok (.iaload, 1) := by decide +kernel
theorem dL_value_163 : decode cL_value 163 = .ok (.bipush 100, 2) := by decide +kernel
theorem dL_value_165 : decode cL_value 165 = .ok (.idiv, 1) := by decide +kernel
theorem dL_value_166 : decode cL_value 166 = .ok (.istore 18, 2) := by decide +kernel
theorem dL_value_168 : decode cL_value 168 = .ok (.iload 18, 2) := by decide +kernel
theorem dL_value_170 : decode cL_value 170 = .ok (.iconst 5, 1) := by decide +kernel
theorem dL_value_171 : decode cL_value 171 = .ok (.if_icmp .ge 113, 3) := by decide +kernel
theorem dL_value_174 : decode cL_value 174 = .ok (.iload 18, 2) := by decide +kernel
theorem dL_value_176 : decode cL_value 176 = .ok (.ifCond .ne 7, 3) := by decide +kernel
theorem dL_value_179 : decode cL_value 179 = .ok (.lconst 0, 1) := by decide +kernel
theorem dL_value_180 : decode cL_value 180 = .ok (.goto 90, 3) := by decide +kernel
theorem dL_value_183 : decode cL_value 183 = .ok (.iload 18, 2) := by decide +kernel
theorem dL_value_185 : decode cL_value 185 = .ok (.iconst 1, 1) := by decide +kernel
theorem dL_value_186 : decode cL_value 186 = .ok (.if_icmp .ne 15, 3) := by decide +kernel
theorem dL_value_189 : decode cL_value 189 = .ok (.lload 14, 2) := by decide +kernel
theorem dL_value_191 : decode cL_value 191 = .ok (.lload 12, 2) := by decide +kernel
theorem dL_value_193 : decode cL_value 193 = .ok (.lmul, 1) := by decide +kernel
theorem dL_value_194 : decode cL_value 194 = .ok (.ldc2_w 9, 3) := by decide +kernel
theorem dL_value_197 : decode cL_value 197 = .ok (.ldiv, 1) := by decide +kernel
theorem dL_value_198 : decode cL_value 198 = .ok (.goto 72, 3) := by decide +kernel
theorem dL_value_201 : decode cL_value 201 = .ok (.iload 18, 2) := by decide +kernel
theorem dL_value_203 : decode cL_value 203 = .ok (.iconst 2, 1) := by decide +kernel
theorem dL_value_204 : decode cL_value 204 = .ok (.if_icmp .ne 18, 3) := by decide +kernel
theorem dL_value_207 : decode cL_value 207 = .ok (.lload 14, 2) := by decide +kernel
theorem dL_value_209 : decode cL_value 209 = .ok (.lload 12, 2) := by decide +kernel
theorem dL_value_211 : decode cL_value 211 = .ok (.lmul, 1) := by decide +kernel
theorem dL_value_212 : decode cL_value 212 = .ok (.lload 12, 2) := by decide +kernel
theorem dL_value_214 : decode cL_value 214 = .ok (.lmul, 1) := by decide +kernel
theorem dL_value_215 : decode cL_value 215 = .ok (.ldc2_w 11, 3) := by decide +kernel
theorem dL_value_218 : decode cL_value 218 = .ok (.ldiv, 1) := by decide +kernel
theorem dL_value_219 : decode cL_value 219 = .ok (.goto 51, 3) := by decide +kernel
theorem dL_value_222 : decode cL_value 222 = .ok (.iload 18, 2) := by decide +kernel
theorem dL_value_224 : decode cL_value 224 = .ok (.iconst 3, 1) := by decide +kernel
theorem dL_value_225 : decode cL_value 225 = .ok (.if_icmp .ne 22, 3) := by decide +kernel
theorem dL_value_228 : decode cL_value 228 = .ok (.lload 14, 2) := by decide +kernel
theorem dL_value_230 : decode cL_value 230 = .ok (.ldc2_w 11, 3) := by decide +kernel
theorem dL_value_233 : decode cL_value 233 = .ok (.lload 16, 2) := by decide +kernel
theorem dL_value_235 : decode cL_value 235 = .ok (.lload 16, 2) := by decide +kernel
theorem dL_value_237 : decode cL_value 237 = .ok (.lmul, 1) := by decide +kernel
theorem dL_value_238 : decode cL_value 238 = .ok (.lsub, 1) := by decide +kernel
theorem dL_value_239 : decode cL_value 239 = .ok (.lmul, 1) := by decide +kernel
theorem dL_value_240 : decode cL_value 240 = .ok (.ldc2_w 11, 3) := by decide +kernel
theorem dL_value_243 : decode cL_value 243 = .ok (.ldiv, 1) := by decide +kernel
theorem dL_value_244 : decode cL_value 244 = .ok (.goto 26, 3) := by decide +kernel
theorem dL_value_247 : decode cL_value 247 = .ok (.lload 14, 2) := by decide +kernel
theorem dL_value_249 : decode cL_value 249 = .ok (.lload 12, 2) := by decide +kernel
theorem dL_value_251 : decode cL_value 251 = .ok (.lmul, 1) := by decide +kernel
theorem dL_value_252 : decode cL_value 252 = .ok (.lload 12, 2) := by decide +kernel
theorem dL_value_254 : decode cL_value 254 = .ok (.lmul, 1) := by decide +kernel
theorem dL_value_255 : decode cL_value 255 = .ok (.ldc2_w 13, 3) := by decide +kernel
theorem dL_value_258 : decode cL_value 258 = .ok (.ldc2_w 15, 3) := by decide +kernel
theorem dL_value_261 : decode cL_value 261 = .ok (.lload 12, 2) := by decide +kernel
theorem dL_value_263 : decode cL_value 263 = .ok (.lmul, 1) := by decide +kernel
theorem dL_value_264 : decode cL_value 264 = .ok (.lsub, 1) := by decide +kernel
theorem dL_value_265 : decode cL_value 265 = .ok (.lmul, 1) := by decide +kernel
theorem dL_value_266 : decode cL_value 266 = .ok (.ldc2_w 17, 3) := by decide +kernel
theorem dL_value_269 : decode cL_value 269 = .ok (.ldiv, 1) := by decide +kernel
theorem dL_value_270 : decode cL_value 270 = .ok (.lstore 19, 2) := by decide +kernel
theorem dL_value_272 : decode cL_value 272 = .ok (.aload_n 2, 1) := by decide +kernel
theorem dL_value_273 : decode cL_value 273 = .ok (.iload 7, 2) := by decide +kernel
theorem dL_value_275 : decode cL_value 275 = .ok (.iload 9, 2) := by decide +kernel
theorem dL_value_277 : decode cL_value 277 = .ok (.iadd, 1) := by decide +kernel
theorem dL_value_278 : decode cL_value 278 = .ok (.iaload, 1) := by decide +kernel
theorem dL_value_279 : decode cL_value 279 = .ok (.lload 19, 2) := by decide +kernel
theorem dL_value_281 : decode cL_value 281 = .ok (.l2i, 1) := by decide +kernel
theorem dL_value_282 : decode cL_value 282 = .ok (.iadd, 1) := by decide +kernel
theorem dL_value_283 : decode cL_value 283 = .ok (.ireturn, 1) := by decide +kernel
theorem dL_value_284 : decode cL_value 284 = .ok (.lload 10, 2) := by decide +kernel
theorem dL_value_286 : decode cL_value 286 = .ok (.aload_n 0, 1) := by decide +kernel
theorem dL_value_287 : decode cL_value 287 = .ok (.aload_n 1, 1) := by decide +kernel
theorem dL_value_288 : decode cL_value 288 = .ok (.aload_n 2, 1) := by decide +kernel
theorem dL_value_289 : decode cL_value 289 = .ok (.aload_n 3, 1) := by decide +kernel
theorem dL_value_290 : decode cL_value 290 = .ok (.aload 4, 2) := by decide +kernel
theorem dL_value_292 : decode cL_value 292 = .ok (.iload 5, 2) := by decide +kernel
theorem dL_value_294 : decode cL_value 294 = .ok (.iload 9, 2) := by decide +kernel
theorem dL_value_296 : decode cL_value 296 = .ok (.invokestatic 19, 3) := by decide +kernel
theorem dL_value_299 : decode cL_value 299 = .ok (.i2l, 1) := by decide +kernel
theorem dL_value_300 : decode cL_value 300 = .ok (.lmul, 1) := by decide +kernel
theorem dL_value_301 : decode cL_value 301 = .ok (.ldc2_w 9, 3) := by decide +kernel
theorem dL_value_304 : decode cL_value 304 = .ok (.ldiv, 1) := by decide +kernel
theorem dL_value_305 : decode cL_value 305 = .ok (.lstore 19, 2) := by decide +kernel
theorem dL_value_307 : decode cL_value 307 = .ok (.lload 10, 2) := by decide +kernel
theorem dL_value_309 : decode cL_value 309 = .ok (.aload_n 0, 1) := by decide +kernel
theorem dL_value_310 : decode cL_value 310 = .ok (.aload_n 1, 1) := by decide +kernel
theorem dL_value_311 : decode cL_value 311 = .ok (.aload_n 2, 1) := by decide +kernel
theorem dL_value_312 : decode cL_value 312 = .ok (.aload_n 3, 1) := by decide +kernel
theorem dL_value_313 : decode cL_value 313 = .ok (.aload 4, 2) := by decide +kernel
theorem dL_value_315 : decode cL_value 315 = .ok (.iload 5, 2) := by decide +kernel
theorem dL_value_317 : decode cL_value 317 = .ok (.iload 9, 2) := by decide +kernel
theorem dL_value_319 : decode cL_value 319 = .ok (.iconst 1, 1) := by decide +kernel
theorem dL_value_320 : decode cL_value 320 = .ok (.iadd, 1) := by decide +kernel
theorem dL_value_321 : decode cL_value 321 = .ok (.invokestatic 19, 3) := by decide +kernel
theorem dL_value_324 : decode cL_value 324 = .ok (.i2l, 1) := by decide +kernel
theorem dL_value_325 : decode cL_value 325 = .ok (.lmul, 1) := by decide +kernel
theorem dL_value_326 : decode cL_value 326 = .ok (.ldc2_w 9, 3) := by decide +kernel
theorem dL_value_329 : decode cL_value 329 = .ok (.ldiv, 1) := by decide +kernel
theorem dL_value_330 : decode cL_value 330 = .ok (.lstore 21, 2) := by decide +kernel
theorem dL_value_332 : decode cL_value 332 = .ok (.aload_n 2, 1) := by decide +kernel
theorem dL_value_333 : decode cL_value 333 = .ok (.iload 7, 2) := by decide +kernel
theorem dL_value_335 : decode cL_value 335 = .ok (.iload 9, 2) := by decide +kernel
theorem dL_value_337 : decode cL_value 337 = .ok (.iadd, 1) := by decide +kernel
theorem dL_value_338 : decode cL_value 338 = .ok (.iaload, 1) := by decide +kernel
theorem dL_value_339 : decode cL_value 339 = .ok (.lload 14, 2) := by decide +kernel
theorem dL_value_341 : decode cL_value 341 = .ok (.lload 12, 2) := by decide +kernel
theorem dL_value_343 : decode cL_value 343 = .ok (.lmul, 1) := by decide +kernel
theorem dL_value_344 : decode cL_value 344 = .ok (.lload 12, 2) := by decide +kernel
theorem dL_value_346 : decode cL_value 346 = .ok (.lmul, 1) := by decide +kernel
theorem dL_value_347 : decode cL_value 347 = .ok (.ldc2_w 13, 3) := by decide +kernel
theorem dL_value_350 : decode cL_value 350 = .ok (.ldc2_w 15, 3) := by decide +kernel
theorem dL_value_353 : decode cL_value 353 = .ok (.lload 12, 2) := by decide +kernel
theorem dL_value_355 : decode cL_value 355 = .ok (.lmul, 1) := by decide +kernel
theorem dL_value_356 : decode cL_value 356 = .ok (.lsub, 1) := by decide +kernel
theorem dL_value_357 : decode cL_value 357 = .ok (.lmul, 1) := by decide +kernel
theorem dL_value_358 : decode cL_value 358 = .ok (.lload 19, 2) := by decide +kernel
theorem dL_value_360 : decode cL_value 360 = .ok (.lload 12, 2) := by decide +kernel
theorem dL_value_362 : decode cL_value 362 = .ok (.lmul, 1) := by decide +kernel
theorem dL_value_363 : decode cL_value 363 = .ok (.lload 16, 2) := by decide +kernel
theorem dL_value_365 : decode cL_value 365 = .ok (.lmul, 1) := by decide +kernel
theorem dL_value_366 : decode cL_value 366 = .ok (.lload 16, 2) := by decide +kernel
theorem dL_value_368 : decode cL_value 368 = .ok (.lmul, 1) := by decide +kernel
theorem dL_value_369 : decode cL_value 369 = .ok (.ladd, 1) := by decide +kernel
theorem dL_value_370 : decode cL_value 370 = .ok (.lload 21, 2) := by decide +kernel
theorem dL_value_372 : decode cL_value 372 = .ok (.lload 12, 2) := by decide +kernel
theorem dL_value_374 : decode cL_value 374 = .ok (.lmul, 1) := by decide +kernel
theorem dL_value_375 : decode cL_value 375 = .ok (.lload 12, 2) := by decide +kernel
theorem dL_value_377 : decode cL_value 377 = .ok (.lmul, 1) := by decide +kernel
theorem dL_value_378 : decode cL_value 378 = .ok (.lload 16, 2) := by decide +kernel
theorem dL_value_380 : decode cL_value 380 = .ok (.lmul, 1) := by decide +kernel
theorem dL_value_381 : decode cL_value 381 = .ok (.lsub, 1) := by decide +kernel
theorem dL_value_382 : decode cL_value 382 = .ok (.ldc2_w 17, 3) := by decide +kernel
theorem dL_value_385 : decode cL_value 385 = .ok (.ldiv, 1) := by decide +kernel
theorem dL_value_386 : decode cL_value 386 = .ok (.l2i, 1) := by decide +kernel
theorem dL_value_387 : decode cL_value 387 = .ok (.iadd, 1) := by decide +kernel
theorem dL_value_388 : decode cL_value 388 = .ok (.ireturn, 1) := by decide +kernel
theorem dL_swap_0 : decode cL_swap 0 = .ok (.aload_n 0, 1) := by decide +kernel
theorem dL_swap_1 : decode cL_swap 1 = .ok (.iload_n 1, 1) := by decide +kernel
theorem dL_swap_2 : decode cL_swap 2 = .ok (.iaload, 1) := by decide +kernel
theorem dL_swap_3 : decode cL_swap 3 = .ok (.istore_n 3, 1) := by decide +kernel
theorem dL_swap_4 : decode cL_swap 4 = .ok (.aload_n 0, 1) := by decide +kernel
theorem dL_swap_5 : decode cL_swap 5 = .ok (.iload_n 1, 1) := by decide +kernel
theorem dL_swap_6 : decode cL_swap 6 = .ok (.aload_n 0, 1) := by decide +kernel
theorem dL_swap_7 : decode cL_swap 7 = .ok (.iload_n 2, 1) := by decide +kernel
theorem dL_swap_8 : decode cL_swap 8 = .ok (.iaload, 1) := by decide +kernel
theorem dL_swap_9 : decode cL_swap 9 = .ok (.iastore, 1) := by decide +kernel
theorem dL_swap_10 : decode cL_swap 10 = .ok (.aload_n 0, 1) := by decide +kernel
theorem dL_swap_11 : decode cL_swap 11 = .ok (.iload_n 2, 1) := by decide +kernel
theorem dL_swap_12 : decode cL_swap 12 = .ok (.iload_n 3, 1) := by decide +kernel
theorem dL_swap_13 : decode cL_swap 13 = .ok (.iastore, 1) := by decide +kernel
theorem dL_swap_14 : decode cL_swap 14 = .ok (.return_, 1) := by decide +kernel
set_option maxRecDepth 20000 in
theorem ggL_sinks_L_swap : GoodIn wsL_sinks wsL_swap := goodIn_r _ [4] (by decide +kernel) (by decide +kernel)
set_option maxRecDepth 20000 in
theorem gL_sinks_L_swap : GoodIn wsL_sinks (va_wsS RL 25 yL_swap wsL_swap) := goodIn_app (goodIn_of _ (by decide +kernel)) ggL_sinks_L_swap
theorem dL_sinks_0 : decode cL_sinks 0 = .ok (.iload 6, 2) := by decide +kernel
theorem dL_sinks_2 : decode cL_sinks 2 = .ok (.istore 7, 2) := by decide +kernel
theorem dL_sinks_4 : decode cL_sinks 4 = .ok (.iload 7, 2) := by decide +kernel
theorem dL_sinks_6 : decode cL_sinks 6 = .ok (.ifCond .le 28, 3) := by decide +kernel
theorem dL_sinks_9 : decode cL_sinks 9 = .ok (.aload_n 1, 1) := by decide +kernel
theorem dL_sinks_10 : decode cL_sinks 10 = .ok (.bipush 8, 2) := by decide +kernel
theorem dL_sinks_12 : decode cL_sinks 12 = .ok (.iload 5, 2) := by decide +kernel
theorem dL_sinks_14 : decode cL_sinks 14 = .ok (.imul, 1) := by decide +kernel
theorem dL_sinks_15 : decode cL_sinks 15 = .ok (.iload 7, 2) := by decide +kernel
theorem dL_sinks_17 : decode cL_sinks 17 = .ok (.iadd, 1) := by decide +kernel
theorem dL_sinks_18 : decode cL_sinks 18 = .ok (.iconst 1, 1) := by decide +kernel
theorem dL_sinks_19 : decode cL_sinks 19 = .ok (.isub, 1) := by decide +kernel
theorem dL_sinks_20 : decode cL_sinks 20 = .ok (.iaload, 1) := by decide +kernel
theorem dL_sinks_21 : decode cL_sinks 21 = .ok (.aload_n 1, 1) := by decide +kernel
theorem dL_sinks_22 : decode cL_sinks 22 = .ok (.bipush 8, 2) := by decide +kernel
theorem dL_sinks_24 : decode cL_sinks 24 = .ok (.iload 5, 2) := by decide +kernel
theorem dL_sinks_26 : decode cL_sinks 26 = .ok (.imul, 1) := by decide +kernel
theorem dL_sinks_27 : decode cL_sinks 27 = .ok (.iload 7, 2) := by decide +kernel
theorem dL_sinks_29 : decode cL_sinks 29 = .ok (.iadd, 1) := by decide +kernel
theorem dL_sinks_30 : decode cL_sinks 30 = .ok (.iaload, 1) := by decide +kernel
theorem dL_sinks_31 : decode cL_sinks 31 = .ok (.if_icmp .gt 39, 3) := by decide +kernel
theorem dL_sinks_34 : decode cL_sinks 34 = .ok (.iload 7, 2) := by decide +kernel
theorem dL_sinks_36 : decode cL_sinks 36 = .ok (.iconst 1, 1) := by decide +kernel
