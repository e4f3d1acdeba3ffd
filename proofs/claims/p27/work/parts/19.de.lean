/-! ===== the law's own steps, 5 ===== -/
set_option maxRecDepth 20000 in
theorem ggL_isSo_L_keyOf : GoodIn wsL_isSo wsL_keyOf := goodIn_ca (goodIn_ca (goodIn_r _ [4, 5, 6, 7, 8, 9, 10, 11, 12, 13, 14, 15, 16, 17, 18, 19, 20, 21, 22, 23, 24, 25, 26, 27, 28, 29, 30, 31, 32, 33, 34, 35, 36, 37, 38, 39, 40, 41, 42, 43, 44, 92, 93, 94, 95, 96, 97, 98, 99, 100, 101] (by decide +kernel) (by decide +kernel)) (goodIn_sub (fun _ h => List.mem_cons_of_mem _ (List.mem_append_left _ (List.mem_append_right _ h))) (by decide +kernel))) (goodIn_sub (fun _ h => List.mem_cons_of_mem _ (List.mem_append_right _ h)) (by decide +kernel))
set_option maxRecDepth 20000 in
theorem gL_isSo_L_keyOf : GoodIn wsL_isSo (va_wsS RL 129 yL_keyOf wsL_keyOf) := goodIn_app (goodIn_of _ (by decide +kernel)) ggL_isSo_L_keyOf
set_option maxRecDepth 20000 in
theorem ggL_isSo_L_tangent : GoodIn wsL_isSo wsL_tangent := goodIn_r _ [47] (by decide +kernel) (by decide +kernel)
set_option maxRecDepth 20000 in
theorem gL_isSo_L_tangent : GoodIn wsL_isSo (va_wsS RL 19 yL_tangent wsL_tangent) := goodIn_app (goodIn_of _ (by decide +kernel)) ggL_isSo_L_tangent
set_option maxRecDepth 20000 in
theorem ggL_isSo_L_valueOf : GoodIn wsL_isSo wsL_valueOf := goodIn_ca (goodIn_ca (goodIn_r _ [50, 5, 6, 7, 8, 51, 52, 53, 12, 54, 14, 15, 16, 17, 18, 19, 20, 24, 25, 26, 27, 28, 55, 33, 56, 57, 58, 59, 60, 61, 36, 37, 38, 39, 40, 41, 62, 63, 64, 65, 66, 67, 68, 69, 70, 71, 72, 73, 74, 75, 32, 34, 35, 42, 43, 44, 76, 77, 78, 79, 94, 95, 96, 97, 98, 99, 100, 101, 92, 93] (by decide +kernel) (by decide +kernel)) (goodIn_sub (fun _ h => List.mem_cons_of_mem _ (List.mem_append_left _ (List.mem_append_right _ h))) (by decide +kernel))) (goodIn_sub (fun _ h => List.mem_cons_of_mem _ (List.mem_append_right _ h)) (by decide +kernel))
set_option maxRecDepth 20000 in
theorem gL_isSo_L_valueOf : GoodIn wsL_isSo (va_wsS RL 132 yL_valueOf wsL_valueOf) := goodIn_app (goodIn_of _ (by decide +kernel)) ggL_isSo_L_valueOf
set_option maxRecDepth 20000 in
theorem ggL_isSo_L_low : GoodIn wsL_isSo wsL_low := goodIn_r _ [82, 83] (by decide +kernel) (by decide +kernel)
set_option maxRecDepth 20000 in
theorem gL_isSo_L_low : GoodIn wsL_isSo (va_wsS RL 33 yL_low wsL_low) := goodIn_app (goodIn_of _ (by decide +kernel)) ggL_isSo_L_low
set_option maxRecDepth 20000 in
theorem ggL_isSo_L_value : GoodIn wsL_isSo wsL_value := goodIn_r _ [86, 87, 88, 89, 90, 91, 45, 46, 3, 47] (by decide +kernel) (by decide +kernel)
set_option maxRecDepth 20000 in
theorem gL_isSo_L_value : GoodIn wsL_isSo (va_wsS RL 135 yL_value wsL_value) := goodIn_app (goodIn_of _ (by decide +kernel)) ggL_isSo_L_value
theorem dL_isSo_0 : decode cL_isSo 0 = .ok (.aload_n 0, 1) := by decide +kernel
theorem dL_isSo_1 : decode cL_isSo 1 = .ok (.iconst 2, 1) := by decide +kernel
theorem dL_isSo_2 : decode cL_isSo 2 = .ok (.iconst (-1), 1) := by decide +kernel
theorem dL_isSo_3 : decode cL_isSo 3 = .ok (.iconst 0, 1) := by decide +kernel
theorem dL_isSo_4 : decode cL_isSo 4 = .ok (.invokestatic 129, 3) := by decide +kernel
theorem dL_isSo_7 : decode cL_isSo 7 = .ok (.ifCond .ne 17, 3) := by decide +kernel
theorem dL_isSo_10 : decode cL_isSo 10 = .ok (.aload_n 0, 1) := by decide +kernel
theorem dL_isSo_11 : decode cL_isSo 11 = .ok (.iconst 3, 1) := by decide +kernel
theorem dL_isSo_12 : decode cL_isSo 12 = .ok (.iconst (-1), 1) := by decide +kernel
theorem dL_isSo_13 : decode cL_isSo 13 = .ok (.iconst 0, 1) := by decide +kernel
theorem dL_isSo_14 : decode cL_isSo 14 = .ok (.invokestatic 129, 3) := by decide +kernel
theorem dL_isSo_17 : decode cL_isSo 17 = .ok (.ifCond .ne 7, 3) := by decide +kernel
theorem dL_isSo_20 : decode cL_isSo 20 = .ok (.iconst 1, 1) := by decide +kernel
theorem dL_isSo_21 : decode cL_isSo 21 = .ok (.goto 4, 3) := by decide +kernel
theorem dL_isSo_24 : decode cL_isSo 24 = .ok (.iconst 0, 1) := by decide +kernel
theorem dL_isSo_25 : decode cL_isSo 25 = .ok (.istore 7, 2) := by decide +kernel
theorem dL_isSo_27 : decode cL_isSo 27 = .ok (.iconst 0, 1) := by decide +kernel
theorem dL_isSo_28 : decode cL_isSo 28 = .ok (.istore 8, 2) := by decide +kernel
theorem dL_isSo_30 : decode cL_isSo 30 = .ok (.iload 8, 2) := by decide +kernel
theorem dL_isSo_32 : decode cL_isSo 32 = .ok (.iconst 2, 1) := by decide +kernel
theorem dL_isSo_33 : decode cL_isSo 33 = .ok (.if_icmp .ge 319, 3) := by decide +kernel
theorem dL_isSo_36 : decode cL_isSo 36 = .ok (.iload 7, 2) := by decide +kernel
theorem dL_isSo_38 : decode cL_isSo 38 = .ok (.ifCond .eq 314, 3) := by decide +kernel
theorem dL_isSo_41 : decode cL_isSo 41 = .ok (.aload_n 0, 1) := by decide +kernel
theorem dL_isSo_42 : decode cL_isSo 42 = .ok (.iload 8, 2) := by decide +kernel
theorem dL_isSo_44 : decode cL_isSo 44 = .ok (.iconst (-1), 1) := by decide +kernel
theorem dL_isSo_45 : decode cL_isSo 45 = .ok (.iconst 3, 1) := by decide +kernel
theorem dL_isSo_46 : decode cL_isSo 46 = .ok (.invokestatic 129, 3) := by decide +kernel
theorem dL_isSo_49 : decode cL_isSo 49 = .ok (.aload_n 1, 1) := by decide +kernel
theorem dL_isSo_50 : decode cL_isSo 50 = .ok (.iload 8, 2) := by decide +kernel
theorem dL_isSo_52 : decode cL_isSo 52 = .ok (.iaload, 1) := by decide +kernel
theorem dL_isSo_53 : decode cL_isSo 53 = .ok (.if_icmp .ne 7, 3) := by decide +kernel
theorem dL_isSo_56 : decode cL_isSo 56 = .ok (.iconst 1, 1) := by decide +kernel
theorem dL_isSo_57 : decode cL_isSo 57 = .ok (.goto 4, 3) := by decide +kernel
theorem dL_isSo_60 : decode cL_isSo 60 = .ok (.iconst 0, 1) := by decide +kernel
theorem dL_isSo_61 : decode cL_isSo 61 = .ok (.istore 7, 2) := by decide +kernel
theorem dL_isSo_63 : decode cL_isSo 63 = .ok (.iconst 0, 1) := by decide +kernel
theorem dL_isSo_64 : decode cL_isSo 64 = .ok (.istore 9, 2) := by decide +kernel
theorem dL_isSo_66 : decode cL_isSo 66 = .ok (.iload 9, 2) := by decide +kernel
theorem dL_isSo_68 : decode cL_isSo 68 = .ok (.aload_n 1, 1) := by decide +kernel
theorem dL_isSo_69 : decode cL_isSo 69 = .ok (.iload 8, 2) := by decide +kernel
theorem dL_isSo_71 : decode cL_isSo 71 = .ok (.iaload, 1) := by decide +kernel
theorem dL_isSo_72 : decode cL_isSo 72 = .ok (.if_icmp .ge 187, 3) := by decide +kernel
theorem dL_isSo_75 : decode cL_isSo 75 = .ok (.iload 7, 2) := by decide +kernel
theorem dL_isSo_77 : decode cL_isSo 77 = .ok (.ifCond .eq 182, 3) := by decide +kernel
theorem dL_isSo_80 : decode cL_isSo 80 = .ok (.bipush 8, 2) := by decide +kernel
theorem dL_isSo_82 : decode cL_isSo 82 = .ok (.iload 8, 2) := by decide +kernel
theorem dL_isSo_84 : decode cL_isSo 84 = .ok (.imul, 1) := by decide +kernel
theorem dL_isSo_85 : decode cL_isSo 85 = .ok (.iload 9, 2) := by decide +kernel
theorem dL_isSo_87 : decode cL_isSo 87 = .ok (.iadd, 1) := by decide +kernel
theorem dL_isSo_88 : decode cL_isSo 88 = .ok (.istore 10, 2) := by decide +kernel
theorem dL_isSo_90 : decode cL_isSo 90 = .ok (.aload_n 0, 1) := by decide +kernel
theorem dL_isSo_91 : decode cL_isSo 91 = .ok (.iload 8, 2) := by decide +kernel
theorem dL_isSo_93 : decode cL_isSo 93 = .ok (.iload 9, 2) := by decide +kernel
theorem dL_isSo_95 : decode cL_isSo 95 = .ok (.iconst 0, 1) := by decide +kernel
theorem dL_isSo_96 : decode cL_isSo 96 = .ok (.invokestatic 129, 3) := by decide +kernel
theorem dL_isSo_99 : decode cL_isSo 99 = .ok (.aload_n 2, 1) := by decide +kernel
theorem dL_isSo_100 : decode cL_isSo 100 = .ok (.iload 10, 2) := by decide +kernel
theorem dL_isSo_102 : decode cL_isSo 102 = .ok (.iaload, 1) := by decide +kernel
theorem dL_isSo_103 : decode cL_isSo 103 = .ok (.if_icmp .ne 147, 3) := by decide +kernel
theorem dL_isSo_106 : decode cL_isSo 106 = .ok (.aload_n 0, 1) := by decide +kernel
theorem dL_isSo_107 : decode cL_isSo 107 = .ok (.iload 8, 2) := by decide +kernel
theorem dL_isSo_109 : decode cL_isSo 109 = .ok (.iload 9, 2) := by decide +kernel
theorem dL_isSo_111 : decode cL_isSo 111 = .ok (.iconst 1, 1) := by decide +kernel
theorem dL_isSo_112 : decode cL_isSo 112 = .ok (.invokestatic 129, 3) := by decide +kernel
theorem dL_isSo_115 : decode cL_isSo 115 = .ok (.aload_n 3, 1) := by decide +kernel
theorem dL_isSo_116 : decode cL_isSo 116 = .ok (.iload 10, 2) := by decide +kernel
theorem dL_isSo_118 : decode cL_isSo 118 = .ok (.iaload, 1) := by decide +kernel
theorem dL_isSo_119 : decode cL_isSo 119 = .ok (.if_icmp .ne 131, 3) := by decide +kernel
theorem dL_isSo_122 : decode cL_isSo 122 = .ok (.aload_n 0, 1) := by decide +kernel
theorem dL_isSo_123 : decode cL_isSo 123 = .ok (.iload 8, 2) := by decide +kernel
theorem dL_isSo_125 : decode cL_isSo 125 = .ok (.iload 9, 2) := by decide +kernel
theorem dL_isSo_127 : decode cL_isSo 127 = .ok (.iconst 2, 1) := by decide +kernel
theorem dL_isSo_128 : decode cL_isSo 128 = .ok (.invokestatic 129, 3) := by decide +kernel
theorem dL_isSo_131 : decode cL_isSo 131 = .ok (.aload 4, 2) := by decide +kernel
theorem dL_isSo_133 : decode cL_isSo 133 = .ok (.iload 10, 2) := by decide +kernel
theorem dL_isSo_135 : decode cL_isSo 135 = .ok (.iaload, 1) := by decide +kernel
theorem dL_isSo_136 : decode cL_isSo 136 = .ok (.bipush 100, 2) := by decide +kernel
theorem dL_isSo_138 : decode cL_isSo 138 = .ok (.idiv, 1) := by decide +kernel
theorem dL_isSo_139 : decode cL_isSo 139 = .ok (.if_icmp .ne 111, 3) := by decide +kernel
theorem dL_isSo_142 : decode cL_isSo 142 = .ok (.aload_n 0, 1) := by decide +kernel
theorem dL_isSo_143 : decode cL_isSo 143 = .ok (.iload 8, 2) := by decide +kernel
theorem dL_isSo_145 : decode cL_isSo 145 = .ok (.iload 9, 2) := by decide +kernel
theorem dL_isSo_147 : decode cL_isSo 147 = .ok (.iconst 3, 1) := by decide +kernel
theorem dL_isSo_148 : decode cL_isSo 148 = .ok (.invokestatic 129, 3) := by decide +kernel
theorem dL_isSo_151 : decode cL_isSo 151 = .ok (.aload 4, 2) := by decide +kernel
theorem dL_isSo_153 : decode cL_isSo 153 = .ok (.iload 10, 2) := by decide +kernel
theorem dL_isSo_155 : decode cL_isSo 155 = .ok (.iaload, 1) := by decide +kernel
theorem dL_isSo_156 : decode cL_isSo 156 = .ok (.bipush 10, 2) := by decide +kernel
theorem dL_isSo_158 : decode cL_isSo 158 = .ok (.idiv, 1) := by decide +kernel
theorem dL_isSo_159 : decode cL_isSo 159 = .ok (.bipush 10, 2) := by decide +kernel
theorem dL_isSo_161 : decode cL_isSo 161 = .ok (.irem, 1) := by decide +kernel
theorem dL_isSo_162 : decode cL_isSo 162 = .ok (.if_icmp .ne 88, 3) := by decide +kernel
theorem dL_isSo_165 : decode cL_isSo 165 = .ok (.aload_n 0, 1) := by decide +kernel
theorem dL_isSo_166 : decode cL_isSo 166 = .ok (.iload 8, 2) := by decide +kernel
theorem dL_isSo_168 : decode cL_isSo 168 = .ok (.iload 9, 2) := by decide +kernel
theorem dL_isSo_170 : decode cL_isSo 170 = .ok (.iconst 4, 1) := by decide +kernel
theorem dL_isSo_171 : decode cL_isSo 171 = .ok (.invokestatic 129, 3) := by decide +kernel
theorem dL_isSo_174 : decode cL_isSo 174 = .ok (.aload 5, 2) := by decide +kernel
theorem dL_isSo_176 : decode cL_isSo 176 = .ok (.iload 10, 2) := by decide +kernel
theorem dL_isSo_178 : decode cL_isSo 178 = .ok (.iaload, 1) := by decide +kernel
theorem dL_isSo_179 : decode cL_isSo 179 = .ok (.if_icmp .ne 71, 3) := by decide +kernel
theorem dL_isSo_182 : decode cL_isSo 182 = .ok (.aload_n 0, 1) := by decide +kernel
theorem dL_isSo_183 : decode cL_isSo 183 = .ok (.iload 8, 2) := by decide +kernel
theorem dL_isSo_185 : decode cL_isSo 185 = .ok (.iload 9, 2) := by decide +kernel
theorem dL_isSo_187 : decode cL_isSo 187 = .ok (.iconst 5, 1) := by decide +kernel
theorem dL_isSo_188 : decode cL_isSo 188 = .ok (.invokestatic 129, 3) := by decide +kernel
theorem dL_isSo_191 : decode cL_isSo 191 = .ok (.aload_n 1, 1) := by decide +kernel
theorem dL_isSo_192 : decode cL_isSo 192 = .ok (.aload_n 2, 1) := by decide +kernel
theorem dL_isSo_193 : decode cL_isSo 193 = .ok (.aload_n 3, 1) := by decide +kernel
theorem dL_isSo_194 : decode cL_isSo 194 = .ok (.aload 4, 2) := by decide +kernel
theorem dL_isSo_196 : decode cL_isSo 196 = .ok (.aload 5, 2) := by decide +kernel
theorem dL_isSo_198 : decode cL_isSo 198 = .ok (.iload 8, 2) := by decide +kernel
theorem dL_isSo_200 : decode cL_isSo 200 = .ok (.iload 9, 2) := by decide +kernel
theorem dL_isSo_202 : decode cL_isSo 202 = .ok (.invokestatic 19, 3) := by decide +kernel
theorem dL_isSo_205 : decode cL_isSo 205 = .ok (.if_icmp .ne 45, 3) := by decide +kernel
theorem dL_isSo_208 : decode cL_isSo 208 = .ok (.aload_n 0, 1) := by decide +kernel
theorem dL_isSo_209 : decode cL_isSo 209 = .ok (.iload 8, 2) := by decide +kernel
theorem dL_isSo_211 : decode cL_isSo 211 = .ok (.iload 9, 2) := by decide +kernel
theorem dL_isSo_213 : decode cL_isSo 213 = .ok (.bipush 6, 2) := by decide +kernel
theorem dL_isSo_215 : decode cL_isSo 215 = .ok (.invokestatic 129, 3) := by decide +kernel
theorem dL_isSo_218 : decode cL_isSo 218 = .ok (.aload 4, 2) := by decide +kernel
theorem dL_isSo_220 : decode cL_isSo 220 = .ok (.iload 10, 2) := by decide +kernel
theorem dL_isSo_222 : decode cL_isSo 222 = .ok (.iaload, 1) := by decide +kernel
theorem dL_isSo_223 : decode cL_isSo 223 = .ok (.bipush 10, 2) := by decide +kernel
theorem dL_isSo_225 : decode cL_isSo 225 = .ok (.irem, 1) := by decide +kernel
theorem dL_isSo_226 : decode cL_isSo 226 = .ok (.if_icmp .ne 24, 3) := by decide +kernel
theorem dL_isSo_229 : decode cL_isSo 229 = .ok (.aload_n 0, 1) := by decide +kernel
theorem dL_isSo_230 : decode cL_isSo 230 = .ok (.iload 8, 2) := by decide +kernel
theorem dL_isSo_232 : decode cL_isSo 232 = .ok (.aload_n 2, 1) := by decide +kernel
theorem dL_isSo_233 : decode cL_isSo 233 = .ok (.iload 10, 2) := by decide +kernel
theorem dL_isSo_235 : decode cL_isSo 235 = .ok (.iaload, 1) := by decide +kernel
theorem dL_isSo_236 : decode cL_isSo 236 = .ok (.invokestatic 132, 3) := by decide +kernel
theorem dL_isSo_239 : decode cL_isSo 239 = .ok (.aload_n 3, 1) := by decide +kernel
theorem dL_isSo_240 : decode cL_isSo 240 = .ok (.iload 10, 2) := by decide +kernel
theorem dL_isSo_242 : decode cL_isSo 242 = .ok (.iaload, 1) := by decide +kernel
theorem dL_isSo_243 : decode cL_isSo 243 = .ok (.if_icmp .ne 7, 3) := by decide +kernel
theorem dL_isSo_246 : decode cL_isSo 246 = .ok (.iconst 1, 1) := by decide +kernel
theorem dL_isSo_247 : decode cL_isSo 247 = .ok (.goto 4, 3) := by decide +kernel
theorem dL_isSo_250 : decode cL_isSo 250 = .ok (.iconst 0, 1) := by decide +kernel
theorem dL_isSo_251 : decode cL_isSo 251 = .ok (.istore 7, 2) := by decide +kernel
theorem dL_isSo_253 : decode cL_isSo 253 = .ok (.iinc 9 1, 3) := by decide +kernel
theorem dL_isSo_256 : decode cL_isSo 256 = .ok (.goto (-190), 3) := by decide +kernel
theorem dL_isSo_259 : decode cL_isSo 259 = .ok (.iconst 0, 1) := by decide +kernel
theorem dL_isSo_260 : decode cL_isSo 260 = .ok (.istore 9, 2) := by decide +kernel
theorem dL_isSo_262 : decode cL_isSo 262 = .ok (.iload 9, 2) := by decide +kernel
theorem dL_isSo_264 : decode cL_isSo 264 = .ok (.bipush 12, 2) := by decide +kernel
theorem dL_isSo_266 : decode cL_isSo 266 = .ok (.if_icmp .ge 80, 3) := by decide +kernel
theorem dL_isSo_269 : decode cL_isSo 269 = .ok (.iload 7, 2) := by decide +kernel
theorem dL_isSo_271 : decode cL_isSo 271 = .ok (.ifCond .eq 75, 3) := by decide +kernel
theorem dL_isSo_274 : decode cL_isSo 274 = .ok (.iload 6, 2) := by decide +kernel
theorem dL_isSo_276 : decode cL_isSo 276 = .ok (.iload 9, 2) := by decide +kernel
theorem dL_isSo_278 : decode cL_isSo 278 = .ok (.ishr, 1) := by decide +kernel
theorem dL_isSo_279 : decode cL_isSo 279 = .ok (.bipush 31, 2) := by decide +kernel
theorem dL_isSo_281 : decode cL_isSo 281 = .ok (.imul, 1) := by decide +kernel
theorem dL_isSo_282 : decode cL_isSo 282 = .ok (.bipush 7, 2) := by decide +kernel
theorem dL_isSo_284 : decode cL_isSo 284 = .ok (.iload 9, 2) := by decide +kernel
theorem dL_isSo_286 : decode cL_isSo 286 = .ok (.imul, 1) := by decide +kernel
theorem dL_isSo_287 : decode cL_isSo 287 = .ok (.iadd, 1) := by decide +kernel
theorem dL_isSo_288 : decode cL_isSo 288 = .ok (.iload 9, 2) := by decide +kernel
theorem dL_isSo_290 : decode cL_isSo 290 = .ok (.iconst 2, 1) := by decide +kernel
theorem dL_isSo_291 : decode cL_isSo 291 = .ok (.irem, 1) := by decide +kernel
theorem dL_isSo_292 : decode cL_isSo 292 = .ok (.ifCond .ne 9, 3) := by decide +kernel
theorem dL_isSo_295 : decode cL_isSo 295 = .ok (.sipush 1000, 3) := by decide +kernel
theorem dL_isSo_298 : decode cL_isSo 298 = .ok (.goto 5, 3) := by decide +kernel
theorem dL_isSo_301 : decode cL_isSo 301 = .ok (.bipush 100, 2) := by decide +kernel
theorem dL_isSo_303 : decode cL_isSo 303 = .ok (.invokestatic 33, 3) := by decide +kernel
theorem dL_isSo_306 : decode cL_isSo 306 = .ok (.istore 10, 2) := by decide +kernel
theorem dL_isSo_308 : decode cL_isSo 308 = .ok (.aload_n 0, 1) := by decide +kernel
theorem dL_isSo_309 : decode cL_isSo 309 = .ok (.iload 8, 2) := by decide +kernel
theorem dL_isSo_311 : decode cL_isSo 311 = .ok (.iload 10, 2) := by decide +kernel
theorem dL_isSo_313 : decode cL_isSo 313 = .ok (.invokestatic 132, 3) := by decide +kernel
theorem dL_isSo_316 : decode cL_isSo 316 = .ok (.aload_n 1, 1) := by decide +kernel
theorem dL_isSo_317 : decode cL_isSo 317 = .ok (.aload_n 2, 1) := by decide +kernel
theorem dL_isSo_318 : decode cL_isSo 318 = .ok (.aload_n 3, 1) := by decide +kernel
theorem dL_isSo_319 : decode cL_isSo 319 = .ok (.aload 4, 2) := by decide +kernel
theorem dL_isSo_321 : decode cL_isSo 321 = .ok (.aload 5, 2) := by decide +kernel
theorem dL_isSo_323 : decode cL_isSo 323 = .ok (.iload 8, 2) := by decide +kernel
theorem dL_isSo_325 : decode cL_isSo 325 = .ok (.iload 10, 2) := by decide +kernel
theorem dL_isSo_327 : decode cL_isSo 327 = .ok (.invokestatic 135, 3) := by decide +kernel
theorem dL_isSo_330 : decode cL_isSo 330 = .ok (.if_icmp .ne 7, 3) := by decide +kernel
theorem dL_isSo_333 : decode cL_isSo 333 = .ok (.iconst 1, 1) := by decide +kernel
theorem dL_isSo_334 : decode cL_isSo 334 = .ok (.goto 4, 3) := by decide +kernel
theorem dL_isSo_337 : decode cL_isSo 337 = .ok (.iconst 0, 1) := by decide +kernel
theorem dL_isSo_338 : decode cL_isSo 338 = .ok (.istore 7, 2) := by decide +kernel
theorem dL_isSo_340 : decode cL_isSo 340 = .ok (.iinc 9 1, 3) := by decide +kernel
theorem dL_isSo_343 : decode cL_isSo 343 = .ok (.goto (-81), 3) := by decide +kernel
theorem dL_isSo_346 : decode cL_isSo 346 = .ok (.iinc 8 1, 3) := by decide +kernel
theorem dL_isSo_349 : decode cL_isSo 349 = .ok (.goto (-319), 3) := by decide +kernel
theorem dL_isSo_352 : decode cL_isSo 352 = .ok (.iload 7, 2) := by decide +kernel
theorem dL_isSo_354 : decode cL_isSo 354 = .ok (.ireturn, 1) := by decide +kernel
