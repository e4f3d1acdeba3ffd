/-! ===== the law's own steps, 3 ===== -/
set_option maxRecDepth 20000 in
theorem ggL_acts_L_low : GoodIn wsL_acts wsL_low := goodIn_r _ [9, 10] (by decide +kernel) (by decide +kernel)
set_option maxRecDepth 20000 in
theorem gL_acts_L_low : GoodIn wsL_acts (va_wsS RL 33 yL_low wsL_low) := goodIn_app (goodIn_of _ (by decide +kernel)) ggL_acts_L_low
set_option maxRecDepth 20000 in
theorem ggL_acts_L_adds : GoodIn wsL_acts wsL_adds := goodIn_ca (goodIn_ca (goodIn_ca (goodIn_r _ [13, 14, 15, 16, 4, 2, 3, 17, 18, 19, 20, 21, 22, 23, 24, 25, 26, 27, 28, 29, 30, 31, 32, 33, 34, 35, 36, 37, 38, 39, 40, 41, 42, 43, 44, 45, 46, 47, 48, 49, 50, 51, 52, 53, 54, 55, 56, 57, 58, 59, 60, 61, 62, 63, 64, 65, 66, 67, 68, 69, 70, 71, 72, 73, 74, 75, 76, 77, 78, 206, 207, 208, 209, 210, 211, 212, 213, 214, 215] (by decide +kernel) (by decide +kernel)) (goodIn_sub (fun _ h => List.mem_cons_of_mem _ (List.mem_append_left _ (List.mem_append_left _ (List.mem_append_right _ h)))) (by decide +kernel))) (goodIn_sub (fun _ h => List.mem_cons_of_mem _ (List.mem_append_left _ (List.mem_append_right _ h))) (by decide +kernel))) (goodIn_sub (fun _ h => List.mem_cons_of_mem _ (List.mem_append_right _ h)) (by decide +kernel))
set_option maxRecDepth 20000 in
theorem gL_acts_L_adds : GoodIn wsL_acts (va_wsS RL 38 yL_adds wsL_adds) := goodIn_app (goodIn_of _ (by decide +kernel)) ggL_acts_L_adds
set_option maxRecDepth 20000 in
theorem ggL_acts_L_keyAt : GoodIn wsL_acts wsL_keyAt := goodIn_r _ [81] (by decide +kernel) (by decide +kernel)
set_option maxRecDepth 20000 in
theorem gL_acts_L_keyAt : GoodIn wsL_acts (va_wsS RL 43 yL_keyAt wsL_keyAt) := goodIn_app (goodIn_of _ (by decide +kernel)) ggL_acts_L_keyAt
set_option maxRecDepth 20000 in
theorem ggL_acts_L_sinks : GoodIn wsL_acts wsL_sinks := goodIn_r _ [84, 85, 86, 8, 87] (by decide +kernel) (by decide +kernel)
set_option maxRecDepth 20000 in
theorem gL_acts_L_sinks : GoodIn wsL_acts (va_wsS RL 48 yL_sinks wsL_sinks) := goodIn_app (goodIn_of _ (by decide +kernel)) ggL_acts_L_sinks
set_option maxRecDepth 20000 in
theorem ggL_acts_L_drops : GoodIn wsL_acts wsL_drops := goodIn_ca (goodIn_ca (goodIn_r _ [90, 14, 16, 4, 3, 91, 92, 93, 20, 94, 24, 25, 26, 27, 28, 29, 30, 95, 96, 97, 98, 99, 100, 22, 23, 101, 37, 102, 103, 45, 46, 47, 48, 44, 49, 50, 51, 52, 53, 54, 55, 56, 57, 58, 59, 60, 61, 62, 63, 64, 65, 66, 67, 68, 69, 70, 71, 104, 105, 106, 206, 207, 208, 209, 210, 211, 212, 213, 214, 215] (by decide +kernel) (by decide +kernel)) (goodIn_sub (fun _ h => List.mem_cons_of_mem _ (List.mem_append_left _ (List.mem_append_right _ h))) (by decide +kernel))) (goodIn_sub (fun _ h => List.mem_cons_of_mem _ (List.mem_append_left _ (List.mem_append_left _ (List.mem_append_right _ h)))) (by decide +kernel))
set_option maxRecDepth 20000 in
theorem gL_acts_L_drops : GoodIn wsL_acts (va_wsS RL 51 yL_drops wsL_drops) := goodIn_app (goodIn_of _ (by decide +kernel)) ggL_acts_L_drops
set_option maxRecDepth 20000 in
theorem ggL_acts_L_drop : GoodIn wsL_acts wsL_drop := goodIn_r _ [109] (by decide +kernel) (by decide +kernel)
set_option maxRecDepth 20000 in
theorem gL_acts_L_drop : GoodIn wsL_acts (va_wsS RL 56 yL_drop wsL_drop) := goodIn_app (goodIn_of _ (by decide +kernel)) ggL_acts_L_drop
set_option maxRecDepth 20000 in
theorem ggL_acts_L_sets : GoodIn wsL_acts wsL_sets := goodIn_ca (goodIn_ca (goodIn_ca (goodIn_r _ [112, 14, 15, 16, 4, 2, 3, 113, 114, 115, 20, 116, 24, 25, 26, 27, 28, 29, 30, 95, 96, 97, 31, 32, 33, 34, 35, 98, 99, 100, 22, 23, 101, 37, 102, 103, 45, 46, 47, 48, 44, 49, 50, 51, 52, 53, 54, 55, 56, 57, 58, 59, 60, 61, 62, 63, 64, 65, 66, 67, 68, 69, 70, 71, 76, 77, 78, 208, 209, 210, 211, 212, 213, 214, 215, 206, 207] (by decide +kernel) (by decide +kernel)) (goodIn_sub (fun _ h => List.mem_cons_of_mem _ (List.mem_append_left _ (List.mem_append_right _ h))) (by decide +kernel))) (goodIn_sub (fun _ h => List.mem_cons_of_mem _ (List.mem_append_right _ h)) (by decide +kernel))) (goodIn_sub (fun _ h => List.mem_cons_of_mem _ (List.mem_append_left _ (List.mem_append_left _ (List.mem_append_right _ h)))) (by decide +kernel))
set_option maxRecDepth 20000 in
theorem gL_acts_L_sets : GoodIn wsL_acts (va_wsS RL 60 yL_sets wsL_sets) := goodIn_app (goodIn_of _ (by decide +kernel)) ggL_acts_L_sets
set_option maxRecDepth 20000 in
theorem ggL_acts_L_moves : GoodIn wsL_acts wsL_moves := goodIn_ca (goodIn_ca (goodIn_ca (goodIn_r _ [119, 14, 15, 16, 4, 2, 3, 120, 121, 122, 20, 123, 22, 23, 24, 25, 26, 27, 28, 29, 30, 95, 96, 97, 31, 32, 33, 34, 35, 98, 99, 100, 101, 37, 102, 103, 45, 46, 47, 48, 44, 49, 36, 38, 39, 40, 41, 42, 43, 50, 51, 52, 53, 54, 55, 56, 57, 58, 59, 60, 61, 62, 63, 64, 65, 66, 67, 68, 69, 70, 71, 124, 125, 126, 127, 104, 105, 106, 128, 72, 73, 74, 75, 76, 77, 78, 208, 209, 210, 211, 212, 213, 214, 215, 206, 207] (by decide +kernel) (by decide +kernel)) (goodIn_sub (fun _ h => List.mem_cons_of_mem _ (List.mem_append_left _ (List.mem_append_left _ (List.mem_append_right _ h)))) (by decide +kernel))) (goodIn_sub (fun _ h => List.mem_cons_of_mem _ (List.mem_append_left _ (List.mem_append_right _ h))) (by decide +kernel))) (goodIn_sub (fun _ h => List.mem_cons_of_mem _ (List.mem_append_right _ h)) (by decide +kernel))
set_option maxRecDepth 20000 in
theorem gL_acts_L_moves : GoodIn wsL_acts (va_wsS RL 63 yL_moves wsL_moves) := goodIn_app (goodIn_of _ (by decide +kernel)) ggL_acts_L_moves
set_option maxRecDepth 20000 in
theorem ggL_acts_L_leans : GoodIn wsL_acts wsL_leans := goodIn_ca (goodIn_ca (goodIn_ca (goodIn_r _ [131, 14, 15, 16, 4, 2, 3, 132, 133, 134, 20, 135, 136, 137, 24, 25, 26, 27, 28, 29, 30, 95, 96, 97, 31, 32, 33, 34, 35, 98, 99, 100, 22, 23, 101, 37, 102, 103, 45, 46, 47, 48, 44, 49, 50, 51, 52, 53, 54, 55, 56, 57, 58, 59, 60, 61, 62, 63, 64, 65, 66, 67, 68, 69, 70, 71, 138, 139, 140, 141, 142, 143, 76, 77, 78, 208, 209, 210, 211, 212, 213, 214, 215, 206, 207] (by decide +kernel) (by decide +kernel)) (goodIn_sub (fun _ h => List.mem_cons_of_mem _ (List.mem_append_left _ (List.mem_append_right _ h))) (by decide +kernel))) (goodIn_sub (fun _ h => List.mem_cons_of_mem _ (List.mem_append_right _ h)) (by decide +kernel))) (goodIn_sub (fun _ h => List.mem_cons_of_mem _ (List.mem_append_left _ (List.mem_append_left _ (List.mem_append_right _ h)))) (by decide +kernel))
set_option maxRecDepth 20000 in
theorem gL_acts_L_leans : GoodIn wsL_acts (va_wsS RL 68 yL_leans wsL_leans) := goodIn_app (goodIn_of _ (by decide +kernel)) ggL_acts_L_leans
set_option maxRecDepth 20000 in
theorem ggL_acts_L_tangent : GoodIn wsL_acts wsL_tangent := goodIn_r _ [146] (by decide +kernel) (by decide +kernel)
set_option maxRecDepth 20000 in
theorem gL_acts_L_tangent : GoodIn wsL_acts (va_wsS RL 19 yL_tangent wsL_tangent) := goodIn_app (goodIn_of _ (by decide +kernel)) ggL_acts_L_tangent
set_option maxRecDepth 20000 in
theorem ggL_acts_L_locks : GoodIn wsL_acts wsL_locks := goodIn_ca (goodIn_r _ [149, 14, 4, 150, 151, 152, 20, 153, 24, 25, 26, 27, 28, 29, 30, 95, 96, 97, 50, 51, 52, 53, 54, 55, 56, 57, 58, 59, 60, 61, 62, 63, 64, 65, 37, 66, 67, 44, 49, 68, 69, 70, 71, 46, 47, 48, 76, 77, 78, 208, 209, 210, 211, 212, 213, 214, 215, 206, 207] (by decide +kernel) (by decide +kernel)) (goodIn_sub (fun _ h => List.mem_cons_of_mem _ (List.mem_append_left _ (List.mem_append_right _ h))) (by decide +kernel))
set_option maxRecDepth 20000 in
theorem gL_acts_L_locks : GoodIn wsL_acts (va_wsS RL 71 yL_locks wsL_locks) := goodIn_app (goodIn_of _ (by decide +kernel)) ggL_acts_L_locks
set_option maxRecDepth 20000 in
theorem ggL_acts_L_mayStretch : GoodIn wsL_acts wsL_mayStretch := goodIn_r _ [156, 157, 158, 8, 159] (by decide +kernel) (by decide +kernel)
set_option maxRecDepth 20000 in
theorem gL_acts_L_mayStretch : GoodIn wsL_acts (va_wsS RL 75 yL_mayStretch wsL_mayStretch) := goodIn_app (goodIn_of _ (by decide +kernel)) ggL_acts_L_mayStretch
set_option maxRecDepth 20000 in
theorem ggL_acts_L_stretches : GoodIn wsL_acts wsL_stretches := goodIn_ca (goodIn_ca (goodIn_ca (goodIn_r _ [162, 14, 15, 16, 4, 2, 3, 163, 164, 165, 20, 166, 22, 23, 24, 25, 26, 27, 28, 29, 30, 167, 168, 169, 31, 32, 33, 34, 35, 170, 37, 171, 172, 44, 45, 46, 47, 48, 49, 173, 174, 175, 176, 101, 102, 103, 50, 51, 52, 53, 54, 55, 56, 57, 58, 59, 60, 61, 62, 63, 64, 65, 66, 67, 68, 69, 70, 71, 177, 178, 179, 75, 76, 77, 78, 208, 209, 210, 211, 212, 213, 214, 215, 206, 207] (by decide +kernel) (by decide +kernel)) (goodIn_sub (fun _ h => List.mem_cons_of_mem _ (List.mem_append_left _ (List.mem_append_left _ (List.mem_append_right _ h)))) (by decide +kernel))) (goodIn_sub (fun _ h => List.mem_cons_of_mem _ (List.mem_append_left _ (List.mem_append_right _ h))) (by decide +kernel))) (goodIn_sub (fun _ h => List.mem_cons_of_mem _ (List.mem_append_right _ h)) (by decide +kernel))
set_option maxRecDepth 20000 in
theorem gL_acts_L_stretches : GoodIn wsL_acts (va_wsS RL 79 yL_stretches wsL_stretches) := goodIn_app (goodIn_of _ (by decide +kernel)) ggL_acts_L_stretches
set_option maxRecDepth 20000 in
theorem ggL_acts_L_then : GoodIn wsL_acts wsL_then := goodIn_r _ [159] (by decide +kernel) (by decide +kernel)
set_option maxRecDepth 20000 in
theorem gL_acts_L_then : GoodIn wsL_acts (va_wsS RL 29 yL_then wsL_then) := goodIn_app (goodIn_of _ (by decide +kernel)) ggL_acts_L_then
set_option maxRecDepth 20000 in
theorem ggL_acts_L_hasLock : GoodIn wsL_acts wsL_hasLock := goodIn_r _ [182] (by decide +kernel) (by decide +kernel)
set_option maxRecDepth 20000 in
theorem gL_acts_L_hasLock : GoodIn wsL_acts (va_wsS RL 82 yL_hasLock wsL_hasLock) := goodIn_app (goodIn_of _ (by decide +kernel)) ggL_acts_L_hasLock
set_option maxRecDepth 20000 in
theorem ggL_acts_L_copies : GoodIn wsL_acts wsL_copies := goodIn_ca (goodIn_ca (goodIn_ca (goodIn_r _ [185, 14, 15, 16, 4, 2, 3, 186, 187, 188, 20, 189, 22, 23, 24, 25, 26, 27, 28, 29, 30, 31, 32, 33, 34, 35, 190, 191, 192, 193, 37, 194, 195, 44, 176, 101, 102, 103, 45, 46, 47, 48, 49, 196, 197, 198, 199, 200, 201, 202, 50, 51, 52, 53, 54, 55, 56, 57, 58, 59, 60, 61, 62, 63, 64, 65, 66, 67, 68, 69, 70, 71, 203, 204, 205, 75, 76, 77, 78, 206, 207, 208, 209, 210, 211, 212, 213, 214, 215] (by decide +kernel) (by decide +kernel)) (goodIn_sub (fun _ h => List.mem_cons_of_mem _ (List.mem_append_left _ (List.mem_append_left _ (List.mem_append_right _ h)))) (by decide +kernel))) (goodIn_sub (fun _ h => List.mem_cons_of_mem _ (List.mem_append_left _ (List.mem_append_right _ h))) (by decide +kernel))) (goodIn_sub (fun _ h => List.mem_cons_of_mem _ (List.mem_append_right _ h)) (by decide +kernel))
set_option maxRecDepth 20000 in
theorem gL_acts_L_copies : GoodIn wsL_acts (va_wsS RL 86 yL_copies wsL_copies) := goodIn_app (goodIn_of _ (by decide +kernel)) ggL_acts_L_copies
theorem dL_acts_0 : decode cL_acts 0 = .ok (.iload 6, 2) := by decide +kernel
theorem dL_acts_2 : decode cL_acts 2 = .ok (.iconst 4, 1) := by decide +kernel
theorem dL_acts_3 : decode cL_acts 3 = .ok (.ishr, 1) := by decide +kernel
theorem dL_acts_4 : decode cL_acts 4 = .ok (.iconst 2, 1) := by decide +kernel
theorem dL_acts_5 : decode cL_acts 5 = .ok (.invokestatic 33, 3) := by decide +kernel
theorem dL_acts_8 : decode cL_acts 8 = .ok (.istore 7, 2) := by decide +kernel
theorem dL_acts_10 : decode cL_acts 10 = .ok (.iload 6, 2) := by decide +kernel
theorem dL_acts_12 : decode cL_acts 12 = .ok (.iconst 5, 1) := by decide +kernel
theorem dL_acts_13 : decode cL_acts 13 = .ok (.ishr, 1) := by decide +kernel
theorem dL_acts_14 : decode cL_acts 14 = .ok (.ldc 37, 2) := by decide +kernel
theorem dL_acts_16 : decode cL_acts 16 = .ok (.invokestatic 33, 3) := by decide +kernel
theorem dL_acts_19 : decode cL_acts 19 = .ok (.istore 8, 2) := by decide +kernel
theorem dL_acts_21 : decode cL_acts 21 = .ok (.aload_n 1, 1) := by decide +kernel
theorem dL_acts_22 : decode cL_acts 22 = .ok (.iload 7, 2) := by decide +kernel
theorem dL_acts_24 : decode cL_acts 24 = .ok (.iaload, 1) := by decide +kernel
theorem dL_acts_25 : decode cL_acts 25 = .ok (.ifCond .ne 7, 3) := by decide +kernel
theorem dL_acts_28 : decode cL_acts 28 = .ok (.iconst 0, 1) := by decide +kernel
theorem dL_acts_29 : decode cL_acts 29 = .ok (.goto 10, 3) := by decide +kernel
theorem dL_acts_32 : decode cL_acts 32 = .ok (.iload 8, 2) := by decide +kernel
theorem dL_acts_34 : decode cL_acts 34 = .ok (.aload_n 1, 1) := by decide +kernel
theorem dL_acts_35 : decode cL_acts 35 = .ok (.iload 7, 2) := by decide +kernel
theorem dL_acts_37 : decode cL_acts 37 = .ok (.iaload, 1) := by decide +kernel
theorem dL_acts_38 : decode cL_acts 38 = .ok (.irem, 1) := by decide +kernel
theorem dL_acts_39 : decode cL_acts 39 = .ok (.istore 9, 2) := by decide +kernel
theorem dL_acts_41 : decode cL_acts 41 = .ok (.bipush 8, 2) := by decide +kernel
theorem dL_acts_43 : decode cL_acts 43 = .ok (.iload 7, 2) := by decide +kernel
theorem dL_acts_45 : decode cL_acts 45 = .ok (.imul, 1) := by decide +kernel
theorem dL_acts_46 : decode cL_acts 46 = .ok (.iload 9, 2) := by decide +kernel
theorem dL_acts_48 : decode cL_acts 48 = .ok (.iadd, 1) := by decide +kernel
theorem dL_acts_49 : decode cL_acts 49 = .ok (.istore 10, 2) := by decide +kernel
theorem dL_acts_51 : decode cL_acts 51 = .ok (.aload_n 1, 1) := by decide +kernel
theorem dL_acts_52 : decode cL_acts 52 = .ok (.iload 7, 2) := by decide +kernel
theorem dL_acts_54 : decode cL_acts 54 = .ok (.iaload, 1) := by decide +kernel
theorem dL_acts_55 : decode cL_acts 55 = .ok (.ifCond .le 19, 3) := by decide +kernel
theorem dL_acts_58 : decode cL_acts 58 = .ok (.aload 4, 2) := by decide +kernel
theorem dL_acts_60 : decode cL_acts 60 = .ok (.iload 10, 2) := by decide +kernel
theorem dL_acts_62 : decode cL_acts 62 = .ok (.iaload, 1) := by decide +kernel
theorem dL_acts_63 : decode cL_acts 63 = .ok (.bipush 10, 2) := by decide +kernel
theorem dL_acts_65 : decode cL_acts 65 = .ok (.irem, 1) := by decide +kernel
theorem dL_acts_66 : decode cL_acts 66 = .ok (.iconst 1, 1) := by decide +kernel
theorem dL_acts_67 : decode cL_acts 67 = .ok (.if_icmp .ne 7, 3) := by decide +kernel
theorem dL_acts_70 : decode cL_acts 70 = .ok (.iconst 1, 1) := by decide +kernel
theorem dL_acts_71 : decode cL_acts 71 = .ok (.goto 4, 3) := by decide +kernel
theorem dL_acts_74 : decode cL_acts 74 = .ok (.iconst 0, 1) := by decide +kernel
theorem dL_acts_75 : decode cL_acts 75 = .ok (.istore 11, 2) := by decide +kernel
theorem dL_acts_77 : decode cL_acts 77 = .ok (.iload 8, 2) := by decide +kernel
theorem dL_acts_79 : decode cL_acts 79 = .ok (.iconst 3, 1) := by decide +kernel
theorem dL_acts_80 : decode cL_acts 80 = .ok (.irem, 1) := by decide +kernel
theorem dL_acts_81 : decode cL_acts 81 = .ok (.ifCond .ne 18, 3) := by decide +kernel
theorem dL_acts_84 : decode cL_acts 84 = .ok (.iload 8, 2) := by decide +kernel
theorem dL_acts_86 : decode cL_acts 86 = .ok (.iconst 3, 1) := by decide +kernel
theorem dL_acts_87 : decode cL_acts 87 = .ok (.idiv, 1) := by decide +kernel
theorem dL_acts_88 : decode cL_acts 88 = .ok (.sipush 19999, 3) := by decide +kernel
theorem dL_acts_91 : decode cL_acts 91 = .ok (.irem, 1) := by decide +kernel
theorem dL_acts_92 : decode cL_acts 92 = .ok (.sipush 9999, 3) := by decide +kernel
theorem dL_acts_95 : decode cL_acts 95 = .ok (.isub, 1) := by decide +kernel
theorem dL_acts_96 : decode cL_acts 96 = .ok (.goto 13, 3) := by decide +kernel
theorem dL_acts_99 : decode cL_acts 99 = .ok (.iload 8, 2) := by decide +kernel
theorem dL_acts_101 : decode cL_acts 101 = .ok (.iconst 3, 1) := by decide +kernel
theorem dL_acts_102 : decode cL_acts 102 = .ok (.idiv, 1) := by decide +kernel
theorem dL_acts_103 : decode cL_acts 103 = .ok (.bipush 60, 2) := by decide +kernel
theorem dL_acts_105 : decode cL_acts 105 = .ok (.irem, 1) := by decide +kernel
theorem dL_acts_106 : decode cL_acts 106 = .ok (.bipush 20, 2) := by decide +kernel
theorem dL_acts_108 : decode cL_acts 108 = .ok (.isub, 1) := by decide +kernel
theorem dL_acts_109 : decode cL_acts 109 = .ok (.istore 12, 2) := by decide +kernel
theorem dL_acts_111 : decode cL_acts 111 = .ok (.iload 6, 2) := by decide +kernel
theorem dL_acts_113 : decode cL_acts 113 = .ok (.bipush 16, 2) := by decide +kernel
theorem dL_acts_115 : decode cL_acts 115 = .ok (.invokestatic 33, 3) := by decide +kernel
theorem dL_acts_118 : decode cL_acts 118 = .ok (.tableswitch 1011 0 13 #[70, 70, 70, 70, 70, 260, 338, 338, 448, 574, 574, 724, 814, 814], 70) := by decide +kernel
theorem dL_acts_188 : decode cL_acts 188 = .ok (.iload 8, 2) := by decide +kernel
theorem dL_acts_190 : decode cL_acts 190 = .ok (.iconst 2, 1) := by decide +kernel
theorem dL_acts_191 : decode cL_acts 191 = .ok (.irem, 1) := by decide +kernel
theorem dL_acts_192 : decode cL_acts 192 = .ok (.ifCond .ne 14, 3) := by decide +kernel
theorem dL_acts_195 : decode cL_acts 195 = .ok (.iload 8, 2) := by decide +kernel
theorem dL_acts_197 : decode cL_acts 197 = .ok (.iconst 2, 1) := by decide +kernel
theorem dL_acts_198 : decode cL_acts 198 = .ok (.idiv, 1) := by decide +kernel
theorem dL_acts_199 : decode cL_acts 199 = .ok (.sipush 1000, 3) := by decide +kernel
theorem dL_acts_202 : decode cL_acts 202 = .ok (.irem, 1) := by decide +kernel
theorem dL_acts_203 : decode cL_acts 203 = .ok (.goto 10, 3) := by decide +kernel
theorem dL_acts_206 : decode cL_acts 206 = .ok (.iload 8, 2) := by decide +kernel
theorem dL_acts_208 : decode cL_acts 208 = .ok (.iconst 2, 1) := by decide +kernel
theorem dL_acts_209 : decode cL_acts 209 = .ok (.idiv, 1) := by decide +kernel
theorem dL_acts_210 : decode cL_acts 210 = .ok (.bipush 60, 2) := by decide +kernel
theorem dL_acts_212 : decode cL_acts 212 = .ok (.irem, 1) := by decide +kernel
theorem dL_acts_213 : decode cL_acts 213 = .ok (.istore 13, 2) := by decide +kernel
theorem dL_acts_215 : decode cL_acts 215 = .ok (.aload_n 1, 1) := by decide +kernel
theorem dL_acts_216 : decode cL_acts 216 = .ok (.iload 7, 2) := by decide +kernel
theorem dL_acts_218 : decode cL_acts 218 = .ok (.iaload, 1) := by decide +kernel
theorem dL_acts_219 : decode cL_acts 219 = .ok (.bipush 8, 2) := by decide +kernel
theorem dL_acts_221 : decode cL_acts 221 = .ok (.if_icmp .ne 26, 3) := by decide +kernel
theorem dL_acts_224 : decode cL_acts 224 = .ok (.aload_n 0, 1) := by decide +kernel
theorem dL_acts_225 : decode cL_acts 225 = .ok (.iload 7, 2) := by decide +kernel
theorem dL_acts_227 : decode cL_acts 227 = .ok (.iload 13, 2) := by decide +kernel
theorem dL_acts_229 : decode cL_acts 229 = .ok (.iload 12, 2) := by decide +kernel
theorem dL_acts_231 : decode cL_acts 231 = .ok (.bipush 6, 2) := by decide +kernel
theorem dL_acts_233 : decode cL_acts 233 = .ok (.invokestatic 38, 3) := by decide +kernel
theorem dL_acts_236 : decode cL_acts 236 = .ok (.ldc 42, 2) := by decide +kernel
theorem dL_acts_238 : decode cL_acts 238 = .ok (.if_icmp .ne 7, 3) := by decide +kernel
theorem dL_acts_241 : decode cL_acts 241 = .ok (.iconst 1, 1) := by decide +kernel
theorem dL_acts_242 : decode cL_acts 242 = .ok (.goto 4, 3) := by decide +kernel
theorem dL_acts_245 : decode cL_acts 245 = .ok (.iconst 0, 1) := by decide +kernel
theorem dL_acts_246 : decode cL_acts 246 = .ok (.ireturn, 1) := by decide +kernel
theorem dL_acts_247 : decode cL_acts 247 = .ok (.aload_n 1, 1) := by decide +kernel
theorem dL_acts_248 : decode cL_acts 248 = .ok (.aload_n 2, 1) := by decide +kernel
theorem dL_acts_249 : decode cL_acts 249 = .ok (.iload 7, 2) := by decide +kernel
theorem dL_acts_251 : decode cL_acts 251 = .ok (.iload 13, 2) := by decide +kernel
theorem dL_acts_253 : decode cL_acts 253 = .ok (.invokestatic 43, 3) := by decide +kernel
theorem dL_acts_256 : decode cL_acts 256 = .ok (.ifCond .lt 29, 3) := by decide +kernel
theorem dL_acts_259 : decode cL_acts 259 = .ok (.aload_n 0, 1) := by decide +kernel
theorem dL_acts_260 : decode cL_acts 260 = .ok (.iload 7, 2) := by decide +kernel
theorem dL_acts_262 : decode cL_acts 262 = .ok (.iload 13, 2) := by decide +kernel
theorem dL_acts_264 : decode cL_acts 264 = .ok (.iload 12, 2) := by decide +kernel
theorem dL_acts_266 : decode cL_acts 266 = .ok (.iload 8, 2) := by decide +kernel
theorem dL_acts_268 : decode cL_acts 268 = .ok (.bipush 6, 2) := by decide +kernel
theorem dL_acts_270 : decode cL_acts 270 = .ok (.irem, 1) := by decide +kernel
theorem dL_acts_271 : decode cL_acts 271 = .ok (.invokestatic 38, 3) := by decide +kernel
theorem dL_acts_274 : decode cL_acts 274 = .ok (.ldc 47, 2) := by decide +kernel
theorem dL_acts_276 : decode cL_acts 276 = .ok (.if_icmp .ne 7, 3) := by decide +kernel
theorem dL_acts_279 : decode cL_acts 279 = .ok (.iconst 1, 1) := by decide +kernel
theorem dL_acts_280 : decode cL_acts 280 = .ok (.goto 4, 3) := by decide +kernel
theorem dL_acts_283 : decode cL_acts 283 = .ok (.iconst 0, 1) := by decide +kernel
theorem dL_acts_284 : decode cL_acts 284 = .ok (.ireturn, 1) := by decide +kernel
theorem dL_acts_285 : decode cL_acts 285 = .ok (.bipush 8, 2) := by decide +kernel
theorem dL_acts_287 : decode cL_acts 287 = .ok (.iload 7, 2) := by decide +kernel
theorem dL_acts_289 : decode cL_acts 289 = .ok (.imul, 1) := by decide +kernel
theorem dL_acts_290 : decode cL_acts 290 = .ok (.aload_n 1, 1) := by decide +kernel
theorem dL_acts_291 : decode cL_acts 291 = .ok (.iload 7, 2) := by decide +kernel
theorem dL_acts_293 : decode cL_acts 293 = .ok (.iaload, 1) := by decide +kernel
theorem dL_acts_294 : decode cL_acts 294 = .ok (.iadd, 1) := by decide +kernel
theorem dL_acts_295 : decode cL_acts 295 = .ok (.istore 14, 2) := by decide +kernel
theorem dL_acts_297 : decode cL_acts 297 = .ok (.aload_n 2, 1) := by decide +kernel
theorem dL_acts_298 : decode cL_acts 298 = .ok (.iload 14, 2) := by decide +kernel
theorem dL_acts_300 : decode cL_acts 300 = .ok (.iload 13, 2) := by decide +kernel
theorem dL_acts_302 : decode cL_acts 302 = .ok (.iastore, 1) := by decide +kernel
theorem dL_acts_303 : decode cL_acts 303 = .ok (.aload_n 3, 1) := by decide +kernel
theorem dL_acts_304 : decode cL_acts 304 = .ok (.iload 14, 2) := by decide +kernel
theorem dL_acts_306 : decode cL_acts 306 = .ok (.iload 12, 2) := by decide +kernel
theorem dL_acts_308 : decode cL_acts 308 = .ok (.iastore, 1) := by decide +kernel
theorem dL_acts_309 : decode cL_acts 309 = .ok (.aload 4, 2) := by decide +kernel
theorem dL_acts_311 : decode cL_acts 311 = .ok (.iload 14, 2) := by decide +kernel
theorem dL_acts_313 : decode cL_acts 313 = .ok (.bipush 100, 2) := by decide +kernel
theorem dL_acts_315 : decode cL_acts 315 = .ok (.iload 8, 2) := by decide +kernel
theorem dL_acts_317 : decode cL_acts 317 = .ok (.bipush 6, 2) := by decide +kernel
theorem dL_acts_319 : decode cL_acts 319 = .ok (.irem, 1) := by decide +kernel
theorem dL_acts_320 : decode cL_acts 320 = .ok (.imul, 1) := by decide +kernel
theorem dL_acts_321 : decode cL_acts 321 = .ok (.iastore, 1) := by decide +kernel
theorem dL_acts_322 : decode cL_acts 322 = .ok (.aload 5, 2) := by decide +kernel
theorem dL_acts_324 : decode cL_acts 324 = .ok (.iload 14, 2) := by decide +kernel
theorem dL_acts_326 : decode cL_acts 326 = .ok (.iconst 0, 1) := by decide +kernel
theorem dL_acts_327 : decode cL_acts 327 = .ok (.iastore, 1) := by decide +kernel
theorem dL_acts_328 : decode cL_acts 328 = .ok (.aload_n 1, 1) := by decide +kernel
theorem dL_acts_329 : decode cL_acts 329 = .ok (.iload 7, 2) := by decide +kernel
theorem dL_acts_331 : decode cL_acts 331 = .ok (.dup2, 1) := by decide +kernel
theorem dL_acts_332 : decode cL_acts 332 = .ok (.iaload, 1) := by decide +kernel
theorem dL_acts_333 : decode cL_acts 333 = .ok (.iconst 1, 1) := by decide +kernel
theorem dL_acts_334 : decode cL_acts 334 = .ok (.iadd, 1) := by decide +kernel
theorem dL_acts_335 : decode cL_acts 335 = .ok (.iastore, 1) := by decide +kernel
theorem dL_acts_336 : decode cL_acts 336 = .ok (.aload_n 0, 1) := by decide +kernel
theorem dL_acts_337 : decode cL_acts 337 = .ok (.iload 7, 2) := by decide +kernel
theorem dL_acts_339 : decode cL_acts 339 = .ok (.iload 13, 2) := by decide +kernel
theorem dL_acts_341 : decode cL_acts 341 = .ok (.iload 12, 2) := by decide +kernel
theorem dL_acts_343 : decode cL_acts 343 = .ok (.iload 8, 2) := by decide +kernel
theorem dL_acts_345 : decode cL_acts 345 = .ok (.bipush 6, 2) := by decide +kernel
theorem dL_acts_347 : decode cL_acts 347 = .ok (.irem, 1) := by decide +kernel
theorem dL_acts_348 : decode cL_acts 348 = .ok (.invokestatic 38, 3) := by decide +kernel
theorem dL_acts_351 : decode cL_acts 351 = .ok (.aload_n 1, 1) := by decide +kernel
theorem dL_acts_352 : decode cL_acts 352 = .ok (.aload_n 2, 1) := by decide +kernel
theorem dL_acts_353 : decode cL_acts 353 = .ok (.aload_n 3, 1) := by decide +kernel
theorem dL_acts_354 : decode cL_acts 354 = .ok (.aload 4, 2) := by decide +kernel
theorem dL_acts_356 : decode cL_acts 356 = .ok (.aload 5, 2) := by decide +kernel
theorem dL_acts_358 : decode cL_acts 358 = .ok (.iload 7, 2) := by decide +kernel
theorem dL_acts_360 : decode cL_acts 360 = .ok (.aload_n 1, 1) := by decide +kernel
theorem dL_acts_361 : decode cL_acts 361 = .ok (.iload 7, 2) := by decide +kernel
theorem dL_acts_363 : decode cL_acts 363 = .ok (.iaload, 1) := by decide +kernel
theorem dL_acts_364 : decode cL_acts 364 = .ok (.iconst 1, 1) := by decide +kernel
theorem dL_acts_365 : decode cL_acts 365 = .ok (.isub, 1) := by decide +kernel
theorem dL_acts_366 : decode cL_acts 366 = .ok (.invokestatic 48, 3) := by decide +kernel
theorem dL_acts_369 : decode cL_acts 369 = .ok (.if_icmp .ne 7, 3) := by decide +kernel
theorem dL_acts_372 : decode cL_acts 372 = .ok (.iconst 1, 1) := by decide +kernel
theorem dL_acts_373 : decode cL_acts 373 = .ok (.goto 4, 3) := by decide +kernel
theorem dL_acts_376 : decode cL_acts 376 = .ok (.iconst 0, 1) := by decide +kernel
theorem dL_acts_377 : decode cL_acts 377 = .ok (.ireturn, 1) := by decide +kernel
theorem dL_acts_378 : decode cL_acts 378 = .ok (.aload_n 1, 1) := by decide +kernel
theorem dL_acts_379 : decode cL_acts 379 = .ok (.iload 7, 2) := by decide +kernel
theorem dL_acts_381 : decode cL_acts 381 = .ok (.iaload, 1) := by decide +kernel
theorem dL_acts_382 : decode cL_acts 382 = .ok (.ifCond .eq 8, 3) := by decide +kernel
theorem dL_acts_385 : decode cL_acts 385 = .ok (.iload 11, 2) := by decide +kernel
theorem dL_acts_387 : decode cL_acts 387 = .ok (.ifCond .eq 34, 3) := by decide +kernel
theorem dL_acts_390 : decode cL_acts 390 = .ok (.aload_n 0, 1) := by decide +kernel
theorem dL_acts_391 : decode cL_acts 391 = .ok (.iload 7, 2) := by decide +kernel
theorem dL_acts_393 : decode cL_acts 393 = .ok (.iload 9, 2) := by decide +kernel
theorem dL_acts_395 : decode cL_acts 395 = .ok (.invokestatic 51, 3) := by decide +kernel
theorem dL_acts_398 : decode cL_acts 398 = .ok (.aload_n 1, 1) := by decide +kernel
theorem dL_acts_399 : decode cL_acts 399 = .ok (.iload 7, 2) := by decide +kernel
theorem dL_acts_401 : decode cL_acts 401 = .ok (.iaload, 1) := by decide +kernel
theorem dL_acts_402 : decode cL_acts 402 = .ok (.ifCond .ne 8, 3) := by decide +kernel
theorem dL_acts_405 : decode cL_acts 405 = .ok (.ldc 55, 2) := by decide +kernel
theorem dL_acts_407 : decode cL_acts 407 = .ok (.goto 5, 3) := by decide +kernel
theorem dL_acts_410 : decode cL_acts 410 = .ok (.ldc 47, 2) := by decide +kernel
theorem dL_acts_412 : decode cL_acts 412 = .ok (.if_icmp .ne 7, 3) := by decide +kernel
theorem dL_acts_415 : decode cL_acts 415 = .ok (.iconst 1, 1) := by decide +kernel
theorem dL_acts_416 : decode cL_acts 416 = .ok (.goto 4, 3) := by decide +kernel
theorem dL_acts_419 : decode cL_acts 419 = .ok (.iconst 0, 1) := by decide +kernel
theorem dL_acts_420 : decode cL_acts 420 = .ok (.ireturn, 1) := by decide +kernel
theorem dL_acts_421 : decode cL_acts 421 = .ok (.aload_n 1, 1) := by decide +kernel
theorem dL_acts_422 : decode cL_acts 422 = .ok (.aload_n 2, 1) := by decide +kernel
theorem dL_acts_423 : decode cL_acts 423 = .ok (.aload_n 3, 1) := by decide +kernel
theorem dL_acts_424 : decode cL_acts 424 = .ok (.aload 4, 2) := by decide +kernel
theorem dL_acts_426 : decode cL_acts 426 = .ok (.aload 5, 2) := by decide +kernel
theorem dL_acts_428 : decode cL_acts 428 = .ok (.iload 7, 2) := by decide +kernel
theorem dL_acts_430 : decode cL_acts 430 = .ok (.iload 9, 2) := by decide +kernel
theorem dL_acts_432 : decode cL_acts 432 = .ok (.invokestatic 56, 3) := by decide +kernel
theorem dL_acts_435 : decode cL_acts 435 = .ok (.aload_n 0, 1) := by decide +kernel
theorem dL_acts_436 : decode cL_acts 436 = .ok (.iload 7, 2) := by decide +kernel
theorem dL_acts_438 : decode cL_acts 438 = .ok (.iload 9, 2) := by decide +kernel
theorem dL_acts_440 : decode cL_acts 440 = .ok (.invokestatic 51, 3) := by decide +kernel
theorem dL_acts_443 : decode cL_acts 443 = .ok (.aload_n 1, 1) := by decide +kernel
theorem dL_acts_444 : decode cL_acts 444 = .ok (.iload 7, 2) := by decide +kernel
theorem dL_acts_446 : decode cL_acts 446 = .ok (.iaload, 1) := by decide +kernel
theorem dL_acts_447 : decode cL_acts 447 = .ok (.if_icmp .ne 7, 3) := by decide +kernel
theorem dL_acts_450 : decode cL_acts 450 = .ok (.iconst 1, 1) := by decide +kernel
theorem dL_acts_451 : decode cL_acts 451 = .ok (.goto 4, 3) := by decide +kernel
theorem dL_acts_454 : decode cL_acts 454 = .ok (.iconst 0, 1) := by decide +kernel
theorem dL_acts_455 : decode cL_acts 455 = .ok (.ireturn, 1) := by decide +kernel
theorem dL_acts_456 : decode cL_acts 456 = .ok (.aload_n 1, 1) := by decide +kernel
theorem dL_acts_457 : decode cL_acts 457 = .ok (.iload 7, 2) := by decide +kernel
theorem dL_acts_459 : decode cL_acts 459 = .ok (.iaload, 1) := by decide +kernel
theorem dL_acts_460 : decode cL_acts 460 = .ok (.ifCond .eq 8, 3) := by decide +kernel
theorem dL_acts_463 : decode cL_acts 463 = .ok (.iload 11, 2) := by decide +kernel
theorem dL_acts_465 : decode cL_acts 465 = .ok (.ifCond .eq 41, 3) := by decide +kernel
theorem dL_acts_468 : decode cL_acts 468 = .ok (.aload_n 0, 1) := by decide +kernel
theorem dL_acts_469 : decode cL_acts 469 = .ok (.iload 7, 2) := by decide +kernel
theorem dL_acts_471 : decode cL_acts 471 = .ok (.iload 9, 2) := by decide +kernel
theorem dL_acts_473 : decode cL_acts 473 = .ok (.iload 12, 2) := by decide +kernel
theorem dL_acts_475 : decode cL_acts 475 = .ok (.iload 8, 2) := by decide +kernel
theorem dL_acts_477 : decode cL_acts 477 = .ok (.bipush 6, 2) := by decide +kernel
theorem dL_acts_479 : decode cL_acts 479 = .ok (.irem, 1) := by decide +kernel
theorem dL_acts_480 : decode cL_acts 480 = .ok (.invokestatic 60, 3) := by decide +kernel
theorem dL_acts_483 : decode cL_acts 483 = .ok (.aload_n 1, 1) := by decide +kernel
theorem dL_acts_484 : decode cL_acts 484 = .ok (.iload 7, 2) := by decide +kernel
theorem dL_acts_486 : decode cL_acts 486 = .ok (.iaload, 1) := by decide +kernel
theorem dL_acts_487 : decode cL_acts 487 = .ok (.ifCond .ne 8, 3) := by decide +kernel
theorem dL_acts_490 : decode cL_acts 490 = .ok (.ldc 55, 2) := by decide +kernel
theorem dL_acts_492 : decode cL_acts 492 = .ok (.goto 5, 3) := by decide +kernel
theorem dL_acts_495 : decode cL_acts 495 = .ok (.ldc 47, 2) := by decide +kernel
theorem dL_acts_497 : decode cL_acts 497 = .ok (.if_icmp .ne 7, 3) := by decide +kernel
theorem dL_acts_500 : decode cL_acts 500 = .ok (.iconst 1, 1) := by decide +kernel
theorem dL_acts_501 : decode cL_acts 501 = .ok (.goto 4, 3) := by decide +kernel
theorem dL_acts_504 : decode cL_acts 504 = .ok (.iconst 0, 1) := by decide +kernel
theorem dL_acts_505 : decode cL_acts 505 = .ok (.ireturn, 1) := by decide +kernel
theorem dL_acts_506 : decode cL_acts 506 = .ok (.aload_n 3, 1) := by decide +kernel
theorem dL_acts_507 : decode cL_acts 507 = .ok (.iload 10, 2) := by decide +kernel
theorem dL_acts_509 : decode cL_acts 509 = .ok (.iaload, 1) := by decide +kernel
theorem dL_acts_510 : decode cL_acts 510 = .ok (.istore 15, 2) := by decide +kernel
theorem dL_acts_512 : decode cL_acts 512 = .ok (.aload_n 3, 1) := by decide +kernel
theorem dL_acts_513 : decode cL_acts 513 = .ok (.iload 10, 2) := by decide +kernel
theorem dL_acts_515 : decode cL_acts 515 = .ok (.iload 12, 2) := by decide +kernel
theorem dL_acts_517 : decode cL_acts 517 = .ok (.iastore, 1) := by decide +kernel
theorem dL_acts_518 : decode cL_acts 518 = .ok (.aload 4, 2) := by decide +kernel
theorem dL_acts_520 : decode cL_acts 520 = .ok (.iload 10, 2) := by decide +kernel
theorem dL_acts_522 : decode cL_acts 522 = .ok (.aload 4, 2) := by decide +kernel
theorem dL_acts_524 : decode cL_acts 524 = .ok (.iload 10, 2) := by decide +kernel
theorem dL_acts_526 : decode cL_acts 526 = .ok (.iaload, 1) := by decide +kernel
theorem dL_acts_527 : decode cL_acts 527 = .ok (.bipush 100, 2) := by decide +kernel
theorem dL_acts_529 : decode cL_acts 529 = .ok (.irem, 1) := by decide +kernel
theorem dL_acts_530 : decode cL_acts 530 = .ok (.bipush 100, 2) := by decide +kernel
theorem dL_acts_532 : decode cL_acts 532 = .ok (.iload 8, 2) := by decide +kernel
theorem dL_acts_534 : decode cL_acts 534 = .ok (.bipush 6, 2) := by decide +kernel
theorem dL_acts_536 : decode cL_acts 536 = .ok (.irem, 1) := by decide +kernel
theorem dL_acts_537 : decode cL_acts 537 = .ok (.imul, 1) := by decide +kernel
theorem dL_acts_538 : decode cL_acts 538 = .ok (.iadd, 1) := by decide +kernel
theorem dL_acts_539 : decode cL_acts 539 = .ok (.iastore, 1) := by decide +kernel
theorem dL_acts_540 : decode cL_acts 540 = .ok (.aload_n 0, 1) := by decide +kernel
theorem dL_acts_541 : decode cL_acts 541 = .ok (.iload 7, 2) := by decide +kernel
theorem dL_acts_543 : decode cL_acts 543 = .ok (.iload 9, 2) := by decide +kernel
theorem dL_acts_545 : decode cL_acts 545 = .ok (.iload 12, 2) := by decide +kernel
theorem dL_acts_547 : decode cL_acts 547 = .ok (.iload 8, 2) := by decide +kernel
theorem dL_acts_549 : decode cL_acts 549 = .ok (.bipush 6, 2) := by decide +kernel
theorem dL_acts_551 : decode cL_acts 551 = .ok (.irem, 1) := by decide +kernel
theorem dL_acts_552 : decode cL_acts 552 = .ok (.invokestatic 60, 3) := by decide +kernel
theorem dL_acts_555 : decode cL_acts 555 = .ok (.iload 15, 2) := by decide +kernel
theorem dL_acts_557 : decode cL_acts 557 = .ok (.if_icmp .ne 7, 3) := by decide +kernel
theorem dL_acts_560 : decode cL_acts 560 = .ok (.iconst 1, 1) := by decide +kernel
theorem dL_acts_561 : decode cL_acts 561 = .ok (.goto 4, 3) := by decide +kernel
theorem dL_acts_564 : decode cL_acts 564 = .ok (.iconst 0, 1) := by decide +kernel
theorem dL_acts_565 : decode cL_acts 565 = .ok (.ireturn, 1) := by decide +kernel
theorem dL_acts_566 : decode cL_acts 566 = .ok (.iload 8, 2) := by decide +kernel
theorem dL_acts_568 : decode cL_acts 568 = .ok (.bipush 8, 2) := by decide +kernel
theorem dL_acts_570 : decode cL_acts 570 = .ok (.idiv, 1) := by decide +kernel
theorem dL_acts_571 : decode cL_acts 571 = .ok (.sipush 1000, 3) := by decide +kernel
theorem dL_acts_574 : decode cL_acts 574 = .ok (.irem, 1) := by decide +kernel
theorem dL_acts_575 : decode cL_acts 575 = .ok (.istore 16, 2) := by decide +kernel
theorem dL_acts_577 : decode cL_acts 577 = .ok (.aload_n 1, 1) := by decide +kernel
theorem dL_acts_578 : decode cL_acts 578 = .ok (.iload 7, 2) := by decide +kernel
theorem dL_acts_580 : decode cL_acts 580 = .ok (.iaload, 1) := by decide +kernel
theorem dL_acts_581 : decode cL_acts 581 = .ok (.ifCond .ne 23, 3) := by decide +kernel
theorem dL_acts_584 : decode cL_acts 584 = .ok (.aload_n 0, 1) := by decide +kernel
theorem dL_acts_585 : decode cL_acts 585 = .ok (.iload 7, 2) := by decide +kernel
theorem dL_acts_587 : decode cL_acts 587 = .ok (.iconst 0, 1) := by decide +kernel
theorem dL_acts_588 : decode cL_acts 588 = .ok (.iload 16, 2) := by decide +kernel
theorem dL_acts_590 : decode cL_acts 590 = .ok (.invokestatic 63, 3) := by decide +kernel
theorem dL_acts_593 : decode cL_acts 593 = .ok (.ldc 55, 2) := by decide +kernel
theorem dL_acts_595 : decode cL_acts 595 = .ok (.if_icmp .ne 7, 3) := by decide +kernel
theorem dL_acts_598 : decode cL_acts 598 = .ok (.iconst 1, 1) := by decide +kernel
theorem dL_acts_599 : decode cL_acts 599 = .ok (.goto 4, 3) := by decide +kernel
theorem dL_acts_602 : decode cL_acts 602 = .ok (.iconst 0, 1) := by decide +kernel
theorem dL_acts_603 : decode cL_acts 603 = .ok (.ireturn, 1) := by decide +kernel
theorem dL_acts_604 : decode cL_acts 604 = .ok (.aload_n 1, 1) := by decide +kernel
theorem dL_acts_605 : decode cL_acts 605 = .ok (.aload_n 2, 1) := by decide +kernel
theorem dL_acts_606 : decode cL_acts 606 = .ok (.iload 7, 2) := by decide +kernel
theorem dL_acts_608 : decode cL_acts 608 = .ok (.iload 16, 2) := by decide +kernel
theorem dL_acts_610 : decode cL_acts 610 = .ok (.invokestatic 43, 3) := by decide +kernel
theorem dL_acts_613 : decode cL_acts 613 = .ok (.istore 17, 2) := by decide +kernel
theorem dL_acts_615 : decode cL_acts 615 = .ok (.iload 11, 2) := by decide +kernel
theorem dL_acts_617 : decode cL_acts 617 = .ok (.ifCond .ne 15, 3) := by decide +kernel
theorem dL_acts_620 : decode cL_acts 620 = .ok (.iload 17, 2) := by decide +kernel
theorem dL_acts_622 : decode cL_acts 622 = .ok (.ifCond .lt 31, 3) := by decide +kernel
theorem dL_acts_625 : decode cL_acts 625 = .ok (.iload 17, 2) := by decide +kernel
theorem dL_acts_627 : decode cL_acts 627 = .ok (.iload 9, 2) := by decide +kernel
theorem dL_acts_629 : decode cL_acts 629 = .ok (.if_icmp .eq 24, 3) := by decide +kernel
theorem dL_acts_632 : decode cL_acts 632 = .ok (.aload_n 0, 1) := by decide +kernel
theorem dL_acts_633 : decode cL_acts 633 = .ok (.iload 7, 2) := by decide +kernel
theorem dL_acts_635 : decode cL_acts 635 = .ok (.iload 9, 2) := by decide +kernel
theorem dL_acts_637 : decode cL_acts 637 = .ok (.iload 16, 2) := by decide +kernel
theorem dL_acts_639 : decode cL_acts 639 = .ok (.invokestatic 63, 3) := by decide +kernel
theorem dL_acts_642 : decode cL_acts 642 = .ok (.ldc 47, 2) := by decide +kernel
theorem dL_acts_644 : decode cL_acts 644 = .ok (.if_icmp .ne 7, 3) := by decide +kernel
theorem dL_acts_647 : decode cL_acts 647 = .ok (.iconst 1, 1) := by decide +kernel
theorem dL_acts_648 : decode cL_acts 648 = .ok (.goto 4, 3) := by decide +kernel
theorem dL_acts_651 : decode cL_acts 651 = .ok (.iconst 0, 1) := by decide +kernel
theorem dL_acts_652 : decode cL_acts 652 = .ok (.ireturn, 1) := by decide +kernel
theorem dL_acts_653 : decode cL_acts 653 = .ok (.aload_n 2, 1) := by decide +kernel
theorem dL_acts_654 : decode cL_acts 654 = .ok (.iload 10, 2) := by decide +kernel
theorem dL_acts_656 : decode cL_acts 656 = .ok (.iload 16, 2) := by decide +kernel
theorem dL_acts_658 : decode cL_acts 658 = .ok (.iastore, 1) := by decide +kernel
theorem dL_acts_659 : decode cL_acts 659 = .ok (.aload_n 0, 1) := by decide +kernel
theorem dL_acts_660 : decode cL_acts 660 = .ok (.iload 7, 2) := by decide +kernel
theorem dL_acts_662 : decode cL_acts 662 = .ok (.iload 9, 2) := by decide +kernel
theorem dL_acts_664 : decode cL_acts 664 = .ok (.iload 16, 2) := by decide +kernel
theorem dL_acts_666 : decode cL_acts 666 = .ok (.invokestatic 63, 3) := by decide +kernel
theorem dL_acts_669 : decode cL_acts 669 = .ok (.aload_n 1, 1) := by decide +kernel
theorem dL_acts_670 : decode cL_acts 670 = .ok (.aload_n 2, 1) := by decide +kernel
theorem dL_acts_671 : decode cL_acts 671 = .ok (.aload_n 3, 1) := by decide +kernel
theorem dL_acts_672 : decode cL_acts 672 = .ok (.aload 4, 2) := by decide +kernel
theorem dL_acts_674 : decode cL_acts 674 = .ok (.aload 5, 2) := by decide +kernel
theorem dL_acts_676 : decode cL_acts 676 = .ok (.iload 7, 2) := by decide +kernel
theorem dL_acts_678 : decode cL_acts 678 = .ok (.iload 9, 2) := by decide +kernel
theorem dL_acts_680 : decode cL_acts 680 = .ok (.invokestatic 48, 3) := by decide +kernel
theorem dL_acts_683 : decode cL_acts 683 = .ok (.if_icmp .ne 7, 3) := by decide +kernel
theorem dL_acts_686 : decode cL_acts 686 = .ok (.iconst 1, 1) := by decide +kernel
theorem dL_acts_687 : decode cL_acts 687 = .ok (.goto 4, 3) := by decide +kernel
theorem dL_acts_690 : decode cL_acts 690 = .ok (.iconst 0, 1) := by decide +kernel
theorem dL_acts_691 : decode cL_acts 691 = .ok (.ireturn, 1) := by decide +kernel
theorem dL_acts_692 : decode cL_acts 692 = .ok (.iload 8, 2) := by decide +kernel
theorem dL_acts_694 : decode cL_acts 694 = .ok (.iconst 5, 1) := by decide +kernel
theorem dL_acts_695 : decode cL_acts 695 = .ok (.irem, 1) := by decide +kernel
theorem dL_acts_696 : decode cL_acts 696 = .ok (.ifCond .ne 13, 3) := by decide +kernel
theorem dL_acts_699 : decode cL_acts 699 = .ok (.iload 8, 2) := by decide +kernel
theorem dL_acts_701 : decode cL_acts 701 = .ok (.iconst 2, 1) := by decide +kernel
theorem dL_acts_702 : decode cL_acts 702 = .ok (.imul, 1) := by decide +kernel
theorem dL_acts_703 : decode cL_acts 703 = .ok (.ldc 67, 2) := by decide +kernel
theorem dL_acts_705 : decode cL_acts 705 = .ok (.isub, 1) := by decide +kernel
theorem dL_acts_706 : decode cL_acts 706 = .ok (.goto 13, 3) := by decide +kernel
theorem dL_acts_709 : decode cL_acts 709 = .ok (.iload 8, 2) := by decide +kernel
theorem dL_acts_711 : decode cL_acts 711 = .ok (.sipush 4001, 3) := by decide +kernel
theorem dL_acts_714 : decode cL_acts 714 = .ok (.irem, 1) := by decide +kernel
theorem dL_acts_715 : decode cL_acts 715 = .ok (.sipush 2000, 3) := by decide +kernel
theorem dL_acts_718 : decode cL_acts 718 = .ok (.isub, 1) := by decide +kernel
