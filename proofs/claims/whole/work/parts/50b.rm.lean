/-! ===== the law's own calls: words ===== -/
set_option maxRecDepth 20000 in
theorem ggL_addKey_X3_addKey : GoodIn wsL_addKey wsX3_addKey := goodIn_ca (goodIn_ca (goodIn_ca (goodIn_r _ [8, 9, 10, 11, 12, 13, 7, 14, 15, 16, 17, 18, 19, 20, 21, 22, 23, 24, 25, 26, 27, 28, 29, 30, 31, 32, 33, 34, 35, 36, 37, 38, 39, 40, 41, 42, 43, 44, 45, 46, 47, 48, 49, 50, 51, 52, 53, 54, 55, 56, 57, 58, 59, 60, 61, 62, 63, 64, 65, 66, 67, 68, 69, 70, 71, 72, 73, 74, 75] (by decide +kernel) (by decide +kernel)) (goodIn_sub (fun _ h => List.mem_cons_of_mem _ (List.mem_append_left _ (List.mem_append_left _ (List.mem_append_right _ h)))) (by decide +kernel))) (goodIn_sub (fun _ h => List.mem_cons_of_mem _ (List.mem_append_left _ (List.mem_append_right _ h))) (by decide +kernel))) (goodIn_sub (fun _ h => List.mem_cons_of_mem _ (List.mem_append_right _ h)) (by decide +kernel))
set_option maxRecDepth 20000 in
theorem gL_addKey_X3_addKey : GoodIn wsL_addKey (wsV RL 7 RX3 yX3_addKey wsX3_addKey) := goodIn_app (goodIn_of _ (by decide +kernel)) ggL_addKey_X3_addKey
theorem dL_addKey_0 : decode cL_addKey 0 = .ok (.aload 5, 2) := by decide +kernel
theorem dL_addKey_2 : decode cL_addKey 2 = .ok (.iconst 0, 1) := by decide +kernel
theorem dL_addKey_3 : decode cL_addKey 3 = .ok (.aload_n 0, 1) := by decide +kernel
theorem dL_addKey_4 : decode cL_addKey 4 = .ok (.iload_n 1, 1) := by decide +kernel
theorem dL_addKey_5 : decode cL_addKey 5 = .ok (.iload_n 2, 1) := by decide +kernel
theorem dL_addKey_6 : decode cL_addKey 6 = .ok (.iload_n 3, 1) := by decide +kernel
theorem dL_addKey_7 : decode cL_addKey 7 = .ok (.iload 4, 2) := by decide +kernel
theorem dL_addKey_9 : decode cL_addKey 9 = .ok (.invokevirtual 7, 3) := by decide +kernel
theorem dL_addKey_12 : decode cL_addKey 12 = .ok (.i2l, 1) := by decide +kernel
theorem dL_addKey_13 : decode cL_addKey 13 = .ok (.lastore, 1) := by decide +kernel
theorem dL_addKey_14 : decode cL_addKey 14 = .ok (.goto 15, 3) := by decide +kernel
theorem dL_addKey_17 : decode cL_addKey 17 = .ok (.astore 6, 2) := by decide +kernel
theorem dL_addKey_19 : decode cL_addKey 19 = .ok (.iconst 1, 1) := by decide +kernel
theorem dL_addKey_20 : decode cL_addKey 20 = .ok (.ireturn, 1) := by decide +kernel
theorem dL_addKey_21 : decode cL_addKey 21 = .ok (.astore 6, 2) := by decide +kernel
theorem dL_addKey_23 : decode cL_addKey 23 = .ok (.iconst 2, 1) := by decide +kernel
theorem dL_addKey_24 : decode cL_addKey 24 = .ok (.ireturn, 1) := by decide +kernel
theorem dL_addKey_25 : decode cL_addKey 25 = .ok (.astore 6, 2) := by decide +kernel
theorem dL_addKey_27 : decode cL_addKey 27 = .ok (.iconst 3, 1) := by decide +kernel
theorem dL_addKey_28 : decode cL_addKey 28 = .ok (.ireturn, 1) := by decide +kernel
theorem dL_addKey_29 : decode cL_addKey 29 = .ok (.iconst 0, 1) := by decide +kernel
theorem dL_addKey_30 : decode cL_addKey 30 = .ok (.ireturn, 1) := by decide +kernel
set_option maxRecDepth 20000 in
theorem ggL_removeKey_X3_removeKey : GoodIn wsL_removeKey wsX3_removeKey := goodIn_ca (goodIn_ca (goodIn_r _ [7, 8, 9, 10, 6, 11, 12, 13, 14, 15, 16, 17, 18, 19, 20, 21, 22, 23, 24, 25, 26, 27, 28, 29, 30, 31, 32, 33, 34, 35, 36, 37, 38, 39, 40, 41, 42, 43, 44, 45, 46, 47, 48, 49, 50, 51, 52, 53, 54, 55, 56, 57, 58, 59, 60, 61, 62, 63, 64, 65, 66, 67] (by decide +kernel) (by decide +kernel)) (goodIn_sub (fun _ h => List.mem_cons_of_mem _ (List.mem_append_left _ (List.mem_append_right _ h))) (by decide +kernel))) (goodIn_sub (fun _ h => List.mem_cons_of_mem _ (List.mem_append_right _ h)) (by decide +kernel))
set_option maxRecDepth 20000 in
theorem gL_removeKey_X3_removeKey : GoodIn wsL_removeKey (wsV RL 19 RX3 yX3_removeKey wsX3_removeKey) := goodIn_app (goodIn_of _ (by decide +kernel)) ggL_removeKey_X3_removeKey
theorem dL_removeKey_0 : decode cL_removeKey 0 = .ok (.aload_n 3, 1) := by decide +kernel
theorem dL_removeKey_1 : decode cL_removeKey 1 = .ok (.iconst 0, 1) := by decide +kernel
theorem dL_removeKey_2 : decode cL_removeKey 2 = .ok (.aload_n 0, 1) := by decide +kernel
theorem dL_removeKey_3 : decode cL_removeKey 3 = .ok (.iload_n 1, 1) := by decide +kernel
theorem dL_removeKey_4 : decode cL_removeKey 4 = .ok (.iload_n 2, 1) := by decide +kernel
theorem dL_removeKey_5 : decode cL_removeKey 5 = .ok (.invokevirtual 19, 3) := by decide +kernel
theorem dL_removeKey_8 : decode cL_removeKey 8 = .ok (.i2l, 1) := by decide +kernel
theorem dL_removeKey_9 : decode cL_removeKey 9 = .ok (.lastore, 1) := by decide +kernel
theorem dL_removeKey_10 : decode cL_removeKey 10 = .ok (.goto 11, 3) := by decide +kernel
theorem dL_removeKey_13 : decode cL_removeKey 13 = .ok (.astore 4, 2) := by decide +kernel
theorem dL_removeKey_15 : decode cL_removeKey 15 = .ok (.iconst 1, 1) := by decide +kernel
theorem dL_removeKey_16 : decode cL_removeKey 16 = .ok (.ireturn, 1) := by decide +kernel
theorem dL_removeKey_17 : decode cL_removeKey 17 = .ok (.astore 4, 2) := by decide +kernel
theorem dL_removeKey_19 : decode cL_removeKey 19 = .ok (.iconst 2, 1) := by decide +kernel
theorem dL_removeKey_20 : decode cL_removeKey 20 = .ok (.ireturn, 1) := by decide +kernel
theorem dL_removeKey_21 : decode cL_removeKey 21 = .ok (.iconst 0, 1) := by decide +kernel
theorem dL_removeKey_22 : decode cL_removeKey 22 = .ok (.ireturn, 1) := by decide +kernel
set_option maxRecDepth 20000 in
theorem ggL_setKey_X3_setKey : GoodIn wsL_setKey wsX3_setKey := goodIn_ca (goodIn_ca (goodIn_ca (goodIn_r _ [8, 9, 10, 11, 7, 12, 13, 14, 15, 16, 17, 18, 19, 20, 21, 22, 23, 24, 25, 26, 27, 28, 29, 30, 31, 32, 33, 34, 35, 36, 37, 38, 39, 40, 41, 42, 43, 44, 45, 46, 47, 48, 49, 50, 51, 52, 53, 54, 55, 56, 57, 58, 59, 60, 61, 62, 63, 64, 65, 66, 67, 68, 69, 70, 71, 72, 73] (by decide +kernel) (by decide +kernel)) (goodIn_sub (fun _ h => List.mem_cons_of_mem _ (List.mem_append_left _ (List.mem_append_left _ (List.mem_append_right _ h)))) (by decide +kernel))) (goodIn_sub (fun _ h => List.mem_cons_of_mem _ (List.mem_append_left _ (List.mem_append_right _ h))) (by decide +kernel))) (goodIn_sub (fun _ h => List.mem_cons_of_mem _ (List.mem_append_right _ h)) (by decide +kernel))
set_option maxRecDepth 20000 in
theorem gL_setKey_X3_setKey : GoodIn wsL_setKey (wsV RL 23 RX3 yX3_setKey wsX3_setKey) := goodIn_app (goodIn_of _ (by decide +kernel)) ggL_setKey_X3_setKey
theorem dL_setKey_0 : decode cL_setKey 0 = .ok (.aload 5, 2) := by decide +kernel
theorem dL_setKey_2 : decode cL_setKey 2 = .ok (.iconst 0, 1) := by decide +kernel
theorem dL_setKey_3 : decode cL_setKey 3 = .ok (.aload_n 0, 1) := by decide +kernel
theorem dL_setKey_4 : decode cL_setKey 4 = .ok (.iload_n 1, 1) := by decide +kernel
theorem dL_setKey_5 : decode cL_setKey 5 = .ok (.iload_n 2, 1) := by decide +kernel
theorem dL_setKey_6 : decode cL_setKey 6 = .ok (.iload_n 3, 1) := by decide +kernel
theorem dL_setKey_7 : decode cL_setKey 7 = .ok (.iload 4, 2) := by decide +kernel
theorem dL_setKey_9 : decode cL_setKey 9 = .ok (.invokevirtual 23, 3) := by decide +kernel
theorem dL_setKey_12 : decode cL_setKey 12 = .ok (.i2l, 1) := by decide +kernel
theorem dL_setKey_13 : decode cL_setKey 13 = .ok (.lastore, 1) := by decide +kernel
theorem dL_setKey_14 : decode cL_setKey 14 = .ok (.goto 15, 3) := by decide +kernel
theorem dL_setKey_17 : decode cL_setKey 17 = .ok (.astore 6, 2) := by decide +kernel
theorem dL_setKey_19 : decode cL_setKey 19 = .ok (.iconst 1, 1) := by decide +kernel
theorem dL_setKey_20 : decode cL_setKey 20 = .ok (.ireturn, 1) := by decide +kernel
theorem dL_setKey_21 : decode cL_setKey 21 = .ok (.astore 6, 2) := by decide +kernel
theorem dL_setKey_23 : decode cL_setKey 23 = .ok (.iconst 2, 1) := by decide +kernel
theorem dL_setKey_24 : decode cL_setKey 24 = .ok (.ireturn, 1) := by decide +kernel
theorem dL_setKey_25 : decode cL_setKey 25 = .ok (.astore 6, 2) := by decide +kernel
theorem dL_setKey_27 : decode cL_setKey 27 = .ok (.iconst 3, 1) := by decide +kernel
theorem dL_setKey_28 : decode cL_setKey 28 = .ok (.ireturn, 1) := by decide +kernel
theorem dL_setKey_29 : decode cL_setKey 29 = .ok (.iconst 0, 1) := by decide +kernel
theorem dL_setKey_30 : decode cL_setKey 30 = .ok (.ireturn, 1) := by decide +kernel
set_option maxRecDepth 20000 in
theorem ggL_moveKey_X3_moveKey : GoodIn wsL_moveKey wsX3_moveKey := goodIn_ca (goodIn_ca (goodIn_ca (goodIn_r _ [8, 9, 10, 11, 12, 13, 7, 14, 15, 16, 17, 18, 19, 20, 21, 22, 23, 24, 25, 26, 27, 28, 29, 30, 31, 32, 33, 34, 35, 36, 37, 38, 39, 40, 41, 42, 43, 44, 45, 46, 47, 48, 49, 50, 51, 52, 53, 54, 55, 56, 57, 58, 59, 60, 61, 62, 63, 64, 65, 66, 67, 68, 69, 70, 71, 72, 73, 74, 75, 76, 77, 78, 79, 80, 81, 82, 83, 84, 85, 86, 87, 88, 89, 90, 91, 92] (by decide +kernel) (by decide +kernel)) (goodIn_sub (fun _ h => List.mem_cons_of_mem _ (List.mem_append_left _ (List.mem_append_left _ (List.mem_append_right _ h)))) (by decide +kernel))) (goodIn_sub (fun _ h => List.mem_cons_of_mem _ (List.mem_append_left _ (List.mem_append_right _ h))) (by decide +kernel))) (goodIn_sub (fun _ h => List.mem_cons_of_mem _ (List.mem_append_right _ h)) (by decide +kernel))
set_option maxRecDepth 20000 in
theorem gL_moveKey_X3_moveKey : GoodIn wsL_moveKey (wsV RL 26 RX3 yX3_moveKey wsX3_moveKey) := goodIn_app (goodIn_of _ (by decide +kernel)) ggL_moveKey_X3_moveKey
theorem dL_moveKey_0 : decode cL_moveKey 0 = .ok (.aload 4, 2) := by decide +kernel
theorem dL_moveKey_2 : decode cL_moveKey 2 = .ok (.iconst 0, 1) := by decide +kernel
theorem dL_moveKey_3 : decode cL_moveKey 3 = .ok (.aload_n 0, 1) := by decide +kernel
theorem dL_moveKey_4 : decode cL_moveKey 4 = .ok (.iload_n 1, 1) := by decide +kernel
theorem dL_moveKey_5 : decode cL_moveKey 5 = .ok (.iload_n 2, 1) := by decide +kernel
theorem dL_moveKey_6 : decode cL_moveKey 6 = .ok (.iload_n 3, 1) := by decide +kernel
theorem dL_moveKey_7 : decode cL_moveKey 7 = .ok (.invokevirtual 26, 3) := by decide +kernel
theorem dL_moveKey_10 : decode cL_moveKey 10 = .ok (.i2l, 1) := by decide +kernel
theorem dL_moveKey_11 : decode cL_moveKey 11 = .ok (.lastore, 1) := by decide +kernel
theorem dL_moveKey_12 : decode cL_moveKey 12 = .ok (.goto 15, 3) := by decide +kernel
theorem dL_moveKey_15 : decode cL_moveKey 15 = .ok (.astore 5, 2) := by decide +kernel
theorem dL_moveKey_17 : decode cL_moveKey 17 = .ok (.iconst 1, 1) := by decide +kernel
theorem dL_moveKey_18 : decode cL_moveKey 18 = .ok (.ireturn, 1) := by decide +kernel
theorem dL_moveKey_19 : decode cL_moveKey 19 = .ok (.astore 5, 2) := by decide +kernel
theorem dL_moveKey_21 : decode cL_moveKey 21 = .ok (.iconst 2, 1) := by decide +kernel
theorem dL_moveKey_22 : decode cL_moveKey 22 = .ok (.ireturn, 1) := by decide +kernel
theorem dL_moveKey_23 : decode cL_moveKey 23 = .ok (.astore 5, 2) := by decide +kernel
theorem dL_moveKey_25 : decode cL_moveKey 25 = .ok (.iconst 3, 1) := by decide +kernel
theorem dL_moveKey_26 : decode cL_moveKey 26 = .ok (.ireturn, 1) := by decide +kernel
theorem dL_moveKey_27 : decode cL_moveKey 27 = .ok (.iconst 0, 1) := by decide +kernel
theorem dL_moveKey_28 : decode cL_moveKey 28 = .ok (.ireturn, 1) := by decide +kernel
set_option maxRecDepth 20000 in
theorem ggL_setTangent_X3_setTangent : GoodIn wsL_setTangent wsX3_setTangent := goodIn_ca (goodIn_ca (goodIn_ca (goodIn_r _ [8, 9, 10, 11, 12, 13, 7, 14, 15, 16, 17, 18, 19, 20, 21, 22, 23, 24, 25, 26, 27, 28, 29, 30, 31, 32, 33, 34, 35, 36, 37, 38, 39, 40, 41, 42, 43, 44, 45, 46, 47, 48, 49, 50, 51, 52, 53, 54, 55, 56, 57, 58, 59, 60, 61, 62, 63, 64, 65, 66, 67, 68, 69, 70, 71, 72, 73, 74, 75, 76, 77, 78, 79, 80, 81] (by decide +kernel) (by decide +kernel)) (goodIn_sub (fun _ h => List.mem_cons_of_mem _ (List.mem_append_left _ (List.mem_append_left _ (List.mem_append_right _ h)))) (by decide +kernel))) (goodIn_sub (fun _ h => List.mem_cons_of_mem _ (List.mem_append_left _ (List.mem_append_right _ h))) (by decide +kernel))) (goodIn_sub (fun _ h => List.mem_cons_of_mem _ (List.mem_append_right _ h)) (by decide +kernel))
set_option maxRecDepth 20000 in
theorem gL_setTangent_X3_setTangent : GoodIn wsL_setTangent (wsV RL 30 RX3 yX3_setTangent wsX3_setTangent) := goodIn_app (goodIn_of _ (by decide +kernel)) ggL_setTangent_X3_setTangent
theorem dL_setTangent_0 : decode cL_setTangent 0 = .ok (.aload 5, 2) := by decide +kernel
theorem dL_setTangent_2 : decode cL_setTangent 2 = .ok (.iconst 0, 1) := by decide +kernel
theorem dL_setTangent_3 : decode cL_setTangent 3 = .ok (.aload_n 0, 1) := by decide +kernel
theorem dL_setTangent_4 : decode cL_setTangent 4 = .ok (.iload_n 1, 1) := by decide +kernel
theorem dL_setTangent_5 : decode cL_setTangent 5 = .ok (.iload_n 2, 1) := by decide +kernel
theorem dL_setTangent_6 : decode cL_setTangent 6 = .ok (.iload_n 3, 1) := by decide +kernel
theorem dL_setTangent_7 : decode cL_setTangent 7 = .ok (.iload 4, 2) := by decide +kernel
theorem dL_setTangent_9 : decode cL_setTangent 9 = .ok (.invokevirtual 30, 3) := by decide +kernel
theorem dL_setTangent_12 : decode cL_setTangent 12 = .ok (.i2l, 1) := by decide +kernel
theorem dL_setTangent_13 : decode cL_setTangent 13 = .ok (.lastore, 1) := by decide +kernel
theorem dL_setTangent_14 : decode cL_setTangent 14 = .ok (.goto 15, 3) := by decide +kernel
theorem dL_setTangent_17 : decode cL_setTangent 17 = .ok (.astore 6, 2) := by decide +kernel
theorem dL_setTangent_19 : decode cL_setTangent 19 = .ok (.iconst 1, 1) := by decide +kernel
theorem dL_setTangent_20 : decode cL_setTangent 20 = .ok (.ireturn, 1) := by decide +kernel
theorem dL_setTangent_21 : decode cL_setTangent 21 = .ok (.astore 6, 2) := by decide +kernel
theorem dL_setTangent_23 : decode cL_setTangent 23 = .ok (.iconst 2, 1) := by decide +kernel
theorem dL_setTangent_24 : decode cL_setTangent 24 = .ok (.ireturn, 1) := by decide +kernel
theorem dL_setTangent_25 : decode cL_setTangent 25 = .ok (.astore 6, 2) := by decide +kernel
theorem dL_setTangent_27 : decode cL_setTangent 27 = .ok (.iconst 3, 1) := by decide +kernel
theorem dL_setTangent_28 : decode cL_setTangent 28 = .ok (.ireturn, 1) := by decide +kernel
theorem dL_setTangent_29 : decode cL_setTangent 29 = .ok (.iconst 0, 1) := by decide +kernel
theorem dL_setTangent_30 : decode cL_setTangent 30 = .ok (.ireturn, 1) := by decide +kernel
set_option maxRecDepth 20000 in
theorem ggL_lock_X3_lock : GoodIn wsL_lock wsX3_lock := goodIn_ca (goodIn_r _ [6, 7, 8, 9, 5, 10, 11, 12, 13, 14, 15, 16, 17, 18, 19, 20, 21, 22, 23, 24, 25, 26, 27, 28, 29, 30, 31, 32, 33, 34, 35, 36, 37, 38, 39, 40, 41, 42, 43, 44, 45, 46, 47, 48, 49, 50, 51, 52, 53, 54, 55, 56, 57] (by decide +kernel) (by decide +kernel)) (goodIn_sub (fun _ h => List.mem_cons_of_mem _ (List.mem_append_right _ h)) (by decide +kernel))
set_option maxRecDepth 20000 in
theorem gL_lock_X3_lock : GoodIn wsL_lock (wsV RL 33 RX3 yX3_lock wsX3_lock) := goodIn_app (goodIn_of _ (by decide +kernel)) ggL_lock_X3_lock
theorem dL_lock_0 : decode cL_lock 0 = .ok (.aload 4, 2) := by decide +kernel
theorem dL_lock_2 : decode cL_lock 2 = .ok (.iconst 0, 1) := by decide +kernel
theorem dL_lock_3 : decode cL_lock 3 = .ok (.aload_n 0, 1) := by decide +kernel
theorem dL_lock_4 : decode cL_lock 4 = .ok (.iload_n 1, 1) := by decide +kernel
theorem dL_lock_5 : decode cL_lock 5 = .ok (.iload_n 2, 1) := by decide +kernel
theorem dL_lock_6 : decode cL_lock 6 = .ok (.iload_n 3, 1) := by decide +kernel
theorem dL_lock_7 : decode cL_lock 7 = .ok (.invokevirtual 33, 3) := by decide +kernel
theorem dL_lock_10 : decode cL_lock 10 = .ok (.i2l, 1) := by decide +kernel
theorem dL_lock_11 : decode cL_lock 11 = .ok (.lastore, 1) := by decide +kernel
theorem dL_lock_12 : decode cL_lock 12 = .ok (.goto 7, 3) := by decide +kernel
theorem dL_lock_15 : decode cL_lock 15 = .ok (.astore 5, 2) := by decide +kernel
theorem dL_lock_17 : decode cL_lock 17 = .ok (.iconst 1, 1) := by decide +kernel
theorem dL_lock_18 : decode cL_lock 18 = .ok (.ireturn, 1) := by decide +kernel
theorem dL_lock_19 : decode cL_lock 19 = .ok (.iconst 0, 1) := by decide +kernel
theorem dL_lock_20 : decode cL_lock 20 = .ok (.ireturn, 1) := by decide +kernel
set_option maxRecDepth 20000 in
theorem ggL_stretch_X3_stretch : GoodIn wsL_stretch wsX3_stretch := goodIn_ca (goodIn_ca (goodIn_ca (goodIn_r _ [8, 9, 10, 11, 12, 13, 7, 14, 15, 16, 17, 18, 19, 20, 21, 22, 23, 24, 25, 26, 27, 28, 29, 30, 31, 32, 33, 34, 35, 36, 37, 38, 39, 40, 41, 42, 43, 44, 45, 46, 47, 48, 49, 50, 51, 52, 53, 54, 55, 56, 57, 58, 59, 60, 61, 62, 63, 64, 65, 66, 67, 68, 69, 70, 71, 72, 73, 74, 75, 76, 77, 78, 79, 80, 81] (by decide +kernel) (by decide +kernel)) (goodIn_sub (fun _ h => List.mem_cons_of_mem _ (List.mem_append_left _ (List.mem_append_left _ (List.mem_append_right _ h)))) (by decide +kernel))) (goodIn_sub (fun _ h => List.mem_cons_of_mem _ (List.mem_append_left _ (List.mem_append_right _ h))) (by decide +kernel))) (goodIn_sub (fun _ h => List.mem_cons_of_mem _ (List.mem_append_right _ h)) (by decide +kernel))
set_option maxRecDepth 20000 in
theorem gL_stretch_X3_stretch : GoodIn wsL_stretch (wsV RL 37 RX3 yX3_stretch wsX3_stretch) := goodIn_app (goodIn_of _ (by decide +kernel)) ggL_stretch_X3_stretch
theorem dL_stretch_0 : decode cL_stretch 0 = .ok (.aload 5, 2) := by decide +kernel
theorem dL_stretch_2 : decode cL_stretch 2 = .ok (.iconst 0, 1) := by decide +kernel
theorem dL_stretch_3 : decode cL_stretch 3 = .ok (.aload_n 0, 1) := by decide +kernel
theorem dL_stretch_4 : decode cL_stretch 4 = .ok (.iload_n 1, 1) := by decide +kernel
theorem dL_stretch_5 : decode cL_stretch 5 = .ok (.iload_n 2, 1) := by decide +kernel
theorem dL_stretch_6 : decode cL_stretch 6 = .ok (.iload_n 3, 1) := by decide +kernel
theorem dL_stretch_7 : decode cL_stretch 7 = .ok (.iload 4, 2) := by decide +kernel
theorem dL_stretch_9 : decode cL_stretch 9 = .ok (.invokevirtual 37, 3) := by decide +kernel
theorem dL_stretch_12 : decode cL_stretch 12 = .ok (.i2l, 1) := by decide +kernel
theorem dL_stretch_13 : decode cL_stretch 13 = .ok (.lastore, 1) := by decide +kernel
theorem dL_stretch_14 : decode cL_stretch 14 = .ok (.goto 15, 3) := by decide +kernel
theorem dL_stretch_17 : decode cL_stretch 17 = .ok (.astore 6, 2) := by decide +kernel
theorem dL_stretch_19 : decode cL_stretch 19 = .ok (.iconst 1, 1) := by decide +kernel
theorem dL_stretch_20 : decode cL_stretch 20 = .ok (.ireturn, 1) := by decide +kernel
theorem dL_stretch_21 : decode cL_stretch 21 = .ok (.astore 6, 2) := by decide +kernel
theorem dL_stretch_23 : decode cL_stretch 23 = .ok (.iconst 2, 1) := by decide +kernel
theorem dL_stretch_24 : decode cL_stretch 24 = .ok (.ireturn, 1) := by decide +kernel
theorem dL_stretch_25 : decode cL_stretch 25 = .ok (.astore 6, 2) := by decide +kernel
theorem dL_stretch_27 : decode cL_stretch 27 = .ok (.iconst 3, 1) := by decide +kernel
theorem dL_stretch_28 : decode cL_stretch 28 = .ok (.ireturn, 1) := by decide +kernel
theorem dL_stretch_29 : decode cL_stretch 29 = .ok (.iconst 0, 1) := by decide +kernel
theorem dL_stretch_30 : decode cL_stretch 30 = .ok (.ireturn, 1) := by decide +kernel
set_option maxRecDepth 20000 in
theorem ggL_copy_X3_copy : GoodIn wsL_copy wsX3_copy := goodIn_ca (goodIn_ca (goodIn_ca (goodIn_r _ [8, 9, 10, 11, 12, 13, 7, 14, 15, 16, 17, 18, 19, 20, 21, 22, 23, 24, 25, 26, 27, 28, 29, 30, 31, 32, 33, 34, 35, 36, 37, 38, 39, 40, 41, 42, 43, 44, 45, 46, 47, 48, 49, 50, 51, 52, 53, 54, 55, 56, 57, 58, 59, 60, 61, 62, 63, 64, 65, 66, 67, 68, 69, 70, 71, 72, 73, 74, 75, 76, 77, 78, 79, 80, 81, 82, 83, 84, 85] (by decide +kernel) (by decide +kernel)) (goodIn_sub (fun _ h => List.mem_cons_of_mem _ (List.mem_append_left _ (List.mem_append_left _ (List.mem_append_right _ h)))) (by decide +kernel))) (goodIn_sub (fun _ h => List.mem_cons_of_mem _ (List.mem_append_left _ (List.mem_append_right _ h))) (by decide +kernel))) (goodIn_sub (fun _ h => List.mem_cons_of_mem _ (List.mem_append_right _ h)) (by decide +kernel))
set_option maxRecDepth 20000 in
theorem gL_copy_X3_copy : GoodIn wsL_copy (wsV RL 40 RX3 yX3_copy wsX3_copy) := goodIn_app (goodIn_of _ (by decide +kernel)) ggL_copy_X3_copy
theorem dL_copy_0 : decode cL_copy 0 = .ok (.aload 4, 2) := by decide +kernel
theorem dL_copy_2 : decode cL_copy 2 = .ok (.iconst 0, 1) := by decide +kernel
theorem dL_copy_3 : decode cL_copy 3 = .ok (.aload_n 0, 1) := by decide +kernel
theorem dL_copy_4 : decode cL_copy 4 = .ok (.iload_n 1, 1) := by decide +kernel
theorem dL_copy_5 : decode cL_copy 5 = .ok (.iload_n 2, 1) := by decide +kernel
theorem dL_copy_6 : decode cL_copy 6 = .ok (.iload_n 3, 1) := by decide +kernel
theorem dL_copy_7 : decode cL_copy 7 = .ok (.invokevirtual 40, 3) := by decide +kernel
theorem dL_copy_10 : decode cL_copy 10 = .ok (.i2l, 1) := by decide +kernel
theorem dL_copy_11 : decode cL_copy 11 = .ok (.lastore, 1) := by decide +kernel
theorem dL_copy_12 : decode cL_copy 12 = .ok (.goto 15, 3) := by decide +kernel
theorem dL_copy_15 : decode cL_copy 15 = .ok (.astore 5, 2) := by decide +kernel
theorem dL_copy_17 : decode cL_copy 17 = .ok (.iconst 1, 1) := by decide +kernel
theorem dL_copy_18 : decode cL_copy 18 = .ok (.ireturn, 1) := by decide +kernel
theorem dL_copy_19 : decode cL_copy 19 = .ok (.astore 5, 2) := by decide +kernel
theorem dL_copy_21 : decode cL_copy 21 = .ok (.iconst 2, 1) := by decide +kernel
theorem dL_copy_22 : decode cL_copy 22 = .ok (.ireturn, 1) := by decide +kernel
theorem dL_copy_23 : decode cL_copy 23 = .ok (.astore 5, 2) := by decide +kernel
theorem dL_copy_25 : decode cL_copy 25 = .ok (.iconst 3, 1) := by decide +kernel
theorem dL_copy_26 : decode cL_copy 26 = .ok (.ireturn, 1) := by decide +kernel
theorem dL_copy_27 : decode cL_copy 27 = .ok (.iconst 0, 1) := by decide +kernel
theorem dL_copy_28 : decode cL_copy 28 = .ok (.ireturn, 1) := by decide +kernel
set_option maxRecDepth 20000 in
theorem ggL_reduce_X3_reduce : GoodIn wsL_reduce wsX3_reduce := goodIn_ca (goodIn_ca (goodIn_r _ [7, 8, 9, 10, 6, 11, 12, 13, 14, 15, 16, 17, 18, 19, 20, 21, 22, 23, 24, 25, 26, 27, 28, 29, 30, 31, 32, 33, 34, 35, 36, 37, 38, 39, 40, 41, 42, 43, 44, 45, 46, 47, 48, 49, 50, 51, 52, 53, 54, 55, 56, 57, 58, 59, 60, 61, 62, 63, 64, 65, 66, 67, 68, 69, 70, 71, 72, 73, 74, 75, 76, 77, 78, 79, 80, 81, 82, 83, 84, 85, 86, 87, 88, 89, 90, 91, 92, 93, 94, 95, 96, 97, 98, 99, 100, 101, 102, 103, 104, 105, 106, 107, 108, 109, 110, 111, 112, 113, 114, 115, 116, 117, 118, 119, 120, 121] (by decide +kernel) (by decide +kernel)) (goodIn_sub (fun _ h => List.mem_cons_of_mem _ (List.mem_append_left _ (List.mem_append_right _ h))) (by decide +kernel))) (goodIn_sub (fun _ h => List.mem_cons_of_mem _ (List.mem_append_right _ h)) (by decide +kernel))
set_option maxRecDepth 20000 in
theorem gL_reduce_X3_reduce : GoodIn wsL_reduce (wsV RL 43 RX3 yX3_reduce wsX3_reduce) := goodIn_app (goodIn_of _ (by decide +kernel)) ggL_reduce_X3_reduce
theorem dL_reduce_0 : decode cL_reduce 0 = .ok (.aload_n 3, 1) := by decide +kernel
theorem dL_reduce_1 : decode cL_reduce 1 = .ok (.iconst 0, 1) := by decide +kernel
theorem dL_reduce_2 : decode cL_reduce 2 = .ok (.aload_n 0, 1) := by decide +kernel
theorem dL_reduce_3 : decode cL_reduce 3 = .ok (.iload_n 1, 1) := by decide +kernel
theorem dL_reduce_4 : decode cL_reduce 4 = .ok (.iload_n 2, 1) := by decide +kernel
theorem dL_reduce_5 : decode cL_reduce 5 = .ok (.invokevirtual 43, 3) := by decide +kernel
theorem dL_reduce_8 : decode cL_reduce 8 = .ok (.i2l, 1) := by decide +kernel
theorem dL_reduce_9 : decode cL_reduce 9 = .ok (.lastore, 1) := by decide +kernel
theorem dL_reduce_10 : decode cL_reduce 10 = .ok (.goto 11, 3) := by decide +kernel
theorem dL_reduce_13 : decode cL_reduce 13 = .ok (.astore 4, 2) := by decide +kernel
theorem dL_reduce_15 : decode cL_reduce 15 = .ok (.iconst 1, 1) := by decide +kernel
theorem dL_reduce_16 : decode cL_reduce 16 = .ok (.ireturn, 1) := by decide +kernel
theorem dL_reduce_17 : decode cL_reduce 17 = .ok (.astore 4, 2) := by decide +kernel
theorem dL_reduce_19 : decode cL_reduce 19 = .ok (.iconst 2, 1) := by decide +kernel
theorem dL_reduce_20 : decode cL_reduce 20 = .ok (.ireturn, 1) := by decide +kernel
theorem dL_reduce_21 : decode cL_reduce 21 = .ok (.iconst 0, 1) := by decide +kernel
theorem dL_reduce_22 : decode cL_reduce 22 = .ok (.ireturn, 1) := by decide +kernel
set_option maxRecDepth 20000 in
theorem ggL_key_X3_key : GoodIn wsL_key wsX3_key := goodIn_ca (goodIn_ca (goodIn_r _ [7, 8, 9, 10, 6, 11, 12, 13, 14, 15, 16, 17, 18, 19, 20, 21, 22, 23, 24, 25, 26, 27, 28, 29, 30, 31, 32, 33, 34, 35, 36, 37, 38, 39, 40, 41, 42, 43, 44, 45, 46, 47, 48] (by decide +kernel) (by decide +kernel)) (goodIn_sub (fun _ h => List.mem_cons_of_mem _ (List.mem_append_left _ (List.mem_append_right _ h))) (by decide +kernel))) (goodIn_sub (fun _ h => List.mem_cons_of_mem _ (List.mem_append_right _ h)) (by decide +kernel))
set_option maxRecDepth 20000 in
theorem gL_key_X3_key : GoodIn wsL_key (wsV RL 46 RX3 yX3_key wsX3_key) := goodIn_app (goodIn_of _ (by decide +kernel)) ggL_key_X3_key
theorem dL_key_0 : decode cL_key 0 = .ok (.aload 4, 2) := by decide +kernel
theorem dL_key_2 : decode cL_key 2 = .ok (.iconst 0, 1) := by decide +kernel
theorem dL_key_3 : decode cL_key 3 = .ok (.aload_n 0, 1) := by decide +kernel
theorem dL_key_4 : decode cL_key 4 = .ok (.iload_n 1, 1) := by decide +kernel
theorem dL_key_5 : decode cL_key 5 = .ok (.iload_n 2, 1) := by decide +kernel
theorem dL_key_6 : decode cL_key 6 = .ok (.iload_n 3, 1) := by decide +kernel
theorem dL_key_7 : decode cL_key 7 = .ok (.invokevirtual 46, 3) := by decide +kernel
theorem dL_key_10 : decode cL_key 10 = .ok (.i2l, 1) := by decide +kernel
theorem dL_key_11 : decode cL_key 11 = .ok (.lastore, 1) := by decide +kernel
theorem dL_key_12 : decode cL_key 12 = .ok (.goto 11, 3) := by decide +kernel
theorem dL_key_15 : decode cL_key 15 = .ok (.astore 5, 2) := by decide +kernel
theorem dL_key_17 : decode cL_key 17 = .ok (.iconst 1, 1) := by decide +kernel
theorem dL_key_18 : decode cL_key 18 = .ok (.ireturn, 1) := by decide +kernel
theorem dL_key_19 : decode cL_key 19 = .ok (.astore 5, 2) := by decide +kernel
theorem dL_key_21 : decode cL_key 21 = .ok (.iconst 2, 1) := by decide +kernel
theorem dL_key_22 : decode cL_key 22 = .ok (.ireturn, 1) := by decide +kernel
theorem dL_key_23 : decode cL_key 23 = .ok (.iconst 0, 1) := by decide +kernel
theorem dL_key_24 : decode cL_key 24 = .ok (.ireturn, 1) := by decide +kernel
set_option maxRecDepth 20000 in
theorem ggL_value_X3_value : GoodIn wsL_value wsX3_value := goodIn_ca (goodIn_ca (goodIn_r _ [7, 8, 9, 10, 6, 11, 12, 13, 14, 15, 16, 17, 18, 19, 20, 21, 22, 23, 24, 25, 26, 27, 28, 29, 30, 31, 32, 33, 34, 35, 36, 37, 38, 39, 40, 41, 42, 43, 44, 45, 46, 47, 48, 49, 50, 51, 52, 53, 54, 55, 56, 57, 58, 59, 60, 61, 62, 63, 64, 65, 66, 67] (by decide +kernel) (by decide +kernel)) (goodIn_sub (fun _ h => List.mem_cons_of_mem _ (List.mem_append_left _ (List.mem_append_right _ h))) (by decide +kernel))) (goodIn_sub (fun _ h => List.mem_cons_of_mem _ (List.mem_append_right _ h)) (by decide +kernel))
set_option maxRecDepth 20000 in
theorem gL_value_X3_value : GoodIn wsL_value (wsV RL 49 RX3 yX3_value wsX3_value) := goodIn_app (goodIn_of _ (by decide +kernel)) ggL_value_X3_value
theorem dL_value_0 : decode cL_value 0 = .ok (.aload_n 3, 1) := by decide +kernel
theorem dL_value_1 : decode cL_value 1 = .ok (.iconst 0, 1) := by decide +kernel
theorem dL_value_2 : decode cL_value 2 = .ok (.aload_n 0, 1) := by decide +kernel
theorem dL_value_3 : decode cL_value 3 = .ok (.iload_n 1, 1) := by decide +kernel
theorem dL_value_4 : decode cL_value 4 = .ok (.iload_n 2, 1) := by decide +kernel
theorem dL_value_5 : decode cL_value 5 = .ok (.invokevirtual 49, 3) := by decide +kernel
theorem dL_value_8 : decode cL_value 8 = .ok (.i2l, 1) := by decide +kernel
theorem dL_value_9 : decode cL_value 9 = .ok (.lastore, 1) := by decide +kernel
theorem dL_value_10 : decode cL_value 10 = .ok (.goto 11, 3) := by decide +kernel
theorem dL_value_13 : decode cL_value 13 = .ok (.astore 4, 2) := by decide +kernel
theorem dL_value_15 : decode cL_value 15 = .ok (.iconst 1, 1) := by decide +kernel
theorem dL_value_16 : decode cL_value 16 = .ok (.ireturn, 1) := by decide +kernel
theorem dL_value_17 : decode cL_value 17 = .ok (.astore 4, 2) := by decide +kernel
theorem dL_value_19 : decode cL_value 19 = .ok (.iconst 2, 1) := by decide +kernel
theorem dL_value_20 : decode cL_value 20 = .ok (.ireturn, 1) := by decide +kernel
theorem dL_value_21 : decode cL_value 21 = .ok (.iconst 0, 1) := by decide +kernel
theorem dL_value_22 : decode cL_value 22 = .ok (.ireturn, 1) := by decide +kernel
set_option maxRecDepth 20000 in
theorem ggL_sum_X3_sum : GoodIn wsL_sum wsX3_sum := goodIn_ca (goodIn_ca (goodIn_r _ [7, 8, 9, 10, 6, 11, 12, 13, 14, 15, 16, 17, 18, 19, 20, 21, 22, 23, 24, 25, 26, 27, 28, 29, 30, 31, 32, 33, 34, 35, 36, 37, 38, 39, 40, 41, 42, 43, 44, 45, 46, 47, 48, 49, 50, 51, 52, 53, 54, 55, 56, 57, 58, 59, 60, 61, 62, 63, 64, 65, 66, 67, 68, 69, 70, 71, 72, 73, 74, 75] (by decide +kernel) (by decide +kernel)) (goodIn_sub (fun _ h => List.mem_cons_of_mem _ (List.mem_append_left _ (List.mem_append_right _ h))) (by decide +kernel))) (goodIn_sub (fun _ h => List.mem_cons_of_mem _ (List.mem_append_right _ h)) (by decide +kernel))
set_option maxRecDepth 20000 in
theorem gL_sum_X3_sum : GoodIn wsL_sum (wsV RL 52 RX3 yX3_sum wsX3_sum) := goodIn_app (goodIn_of _ (by decide +kernel)) ggL_sum_X3_sum
theorem dL_sum_0 : decode cL_sum 0 = .ok (.aload 4, 2) := by decide +kernel
theorem dL_sum_2 : decode cL_sum 2 = .ok (.iconst 0, 1) := by decide +kernel
theorem dL_sum_3 : decode cL_sum 3 = .ok (.aload_n 0, 1) := by decide +kernel
theorem dL_sum_4 : decode cL_sum 4 = .ok (.iload_n 1, 1) := by decide +kernel
theorem dL_sum_5 : decode cL_sum 5 = .ok (.iload_n 2, 1) := by decide +kernel
theorem dL_sum_6 : decode cL_sum 6 = .ok (.iload_n 3, 1) := by decide +kernel
theorem dL_sum_7 : decode cL_sum 7 = .ok (.invokevirtual 52, 3) := by decide +kernel
theorem dL_sum_10 : decode cL_sum 10 = .ok (.lastore, 1) := by decide +kernel
theorem dL_sum_11 : decode cL_sum 11 = .ok (.goto 11, 3) := by decide +kernel
theorem dL_sum_14 : decode cL_sum 14 = .ok (.astore 5, 2) := by decide +kernel
theorem dL_sum_16 : decode cL_sum 16 = .ok (.iconst 1, 1) := by decide +kernel
theorem dL_sum_17 : decode cL_sum 17 = .ok (.ireturn, 1) := by decide +kernel
theorem dL_sum_18 : decode cL_sum 18 = .ok (.astore 5, 2) := by decide +kernel
theorem dL_sum_20 : decode cL_sum 20 = .ok (.iconst 2, 1) := by decide +kernel
theorem dL_sum_21 : decode cL_sum 21 = .ok (.ireturn, 1) := by decide +kernel
theorem dL_sum_22 : decode cL_sum 22 = .ok (.iconst 0, 1) := by decide +kernel
theorem dL_sum_23 : decode cL_sum 23 = .ok (.ireturn, 1) := by decide +kernel
set_option maxRecDepth 20000 in
theorem ggL_extreme_X3_extreme : GoodIn wsL_extreme wsX3_extreme := goodIn_ca (goodIn_ca (goodIn_r _ [7, 8, 9, 10, 11, 6, 12, 13, 14, 15, 16, 17, 18, 19, 20, 21, 22, 23, 24, 25, 26, 27, 28, 29, 30, 31, 32, 33, 34, 35, 36, 37, 38, 39, 40, 41, 42, 43, 44, 45, 46, 47, 48, 49, 50, 51, 52, 53, 54, 55, 56, 57, 58, 59, 60, 61, 62, 63, 64, 65, 66, 67, 68, 69, 70, 71, 72, 73, 74, 75, 76, 77, 78, 79, 80, 81, 82, 83, 84, 85, 86, 87] (by decide +kernel) (by decide +kernel)) (goodIn_sub (fun _ h => List.mem_cons_of_mem _ (List.mem_append_left _ (List.mem_append_right _ h))) (by decide +kernel))) (goodIn_sub (fun _ h => List.mem_cons_of_mem _ (List.mem_append_right _ h)) (by decide +kernel))
set_option maxRecDepth 20000 in
theorem gL_extreme_X3_extreme : GoodIn wsL_extreme (wsV RL 56 RX3 yX3_extreme wsX3_extreme) := goodIn_app (goodIn_of _ (by decide +kernel)) ggL_extreme_X3_extreme
theorem dL_extreme_0 : decode cL_extreme 0 = .ok (.aload 5, 2) := by decide +kernel
theorem dL_extreme_2 : decode cL_extreme 2 = .ok (.iconst 0, 1) := by decide +kernel
theorem dL_extreme_3 : decode cL_extreme 3 = .ok (.aload_n 0, 1) := by decide +kernel
theorem dL_extreme_4 : decode cL_extreme 4 = .ok (.iload_n 1, 1) := by decide +kernel
theorem dL_extreme_5 : decode cL_extreme 5 = .ok (.iload_n 2, 1) := by decide +kernel
theorem dL_extreme_6 : decode cL_extreme 6 = .ok (.iload_n 3, 1) := by decide +kernel
theorem dL_extreme_7 : decode cL_extreme 7 = .ok (.iload 4, 2) := by decide +kernel
theorem dL_extreme_9 : decode cL_extreme 9 = .ok (.invokevirtual 56, 3) := by decide +kernel
theorem dL_extreme_12 : decode cL_extreme 12 = .ok (.i2l, 1) := by decide +kernel
theorem dL_extreme_13 : decode cL_extreme 13 = .ok (.lastore, 1) := by decide +kernel
theorem dL_extreme_14 : decode cL_extreme 14 = .ok (.goto 11, 3) := by decide +kernel
theorem dL_extreme_17 : decode cL_extreme 17 = .ok (.astore 6, 2) := by decide +kernel
theorem dL_extreme_19 : decode cL_extreme 19 = .ok (.iconst 1, 1) := by decide +kernel
theorem dL_extreme_20 : decode cL_extreme 20 = .ok (.ireturn, 1) := by decide +kernel
theorem dL_extreme_21 : decode cL_extreme 21 = .ok (.astore 6, 2) := by decide +kernel
theorem dL_extreme_23 : decode cL_extreme 23 = .ok (.iconst 2, 1) := by decide +kernel
theorem dL_extreme_24 : decode cL_extreme 24 = .ok (.ireturn, 1) := by decide +kernel
theorem dL_extreme_25 : decode cL_extreme 25 = .ok (.iconst 0, 1) := by decide +kernel
theorem dL_extreme_26 : decode cL_extreme 26 = .ok (.ireturn, 1) := by decide +kernel
set_option maxRecDepth 20000 in
theorem ggL_crossings_X3_crossings : GoodIn wsL_crossings wsX3_crossings := goodIn_ca (goodIn_ca (goodIn_r _ [7, 8, 9, 10, 11, 12, 13, 6, 14, 15, 16, 17, 18, 19, 20, 21, 22, 23, 24, 25, 26, 27, 28, 29, 30, 31, 32, 33, 34, 35, 36, 37, 38, 39, 40, 41, 42, 43, 44, 45, 46, 47, 48, 49, 50, 51, 52, 53, 54, 55, 56, 57, 58, 59, 60, 61, 62, 63, 64, 65, 66, 67, 68, 69, 70] (by decide +kernel) (by decide +kernel)) (goodIn_sub (fun _ h => List.mem_cons_of_mem _ (List.mem_append_left _ (List.mem_append_right _ h))) (by decide +kernel))) (goodIn_sub (fun _ h => List.mem_cons_of_mem _ (List.mem_append_right _ h)) (by decide +kernel))
set_option maxRecDepth 20000 in
theorem gL_crossings_X3_crossings : GoodIn wsL_crossings (wsV RL 59 RX3 yX3_crossings wsX3_crossings) := goodIn_app (goodIn_of _ (by decide +kernel)) ggL_crossings_X3_crossings
theorem dL_crossings_0 : decode cL_crossings 0 = .ok (.aload_n 3, 1) := by decide +kernel
theorem dL_crossings_1 : decode cL_crossings 1 = .ok (.iconst 0, 1) := by decide +kernel
theorem dL_crossings_2 : decode cL_crossings 2 = .ok (.aload_n 0, 1) := by decide +kernel
theorem dL_crossings_3 : decode cL_crossings 3 = .ok (.iload_n 1, 1) := by decide +kernel
theorem dL_crossings_4 : decode cL_crossings 4 = .ok (.iload_n 2, 1) := by decide +kernel
theorem dL_crossings_5 : decode cL_crossings 5 = .ok (.invokevirtual 59, 3) := by decide +kernel
theorem dL_crossings_8 : decode cL_crossings 8 = .ok (.i2l, 1) := by decide +kernel
theorem dL_crossings_9 : decode cL_crossings 9 = .ok (.lastore, 1) := by decide +kernel
theorem dL_crossings_10 : decode cL_crossings 10 = .ok (.goto 11, 3) := by decide +kernel
theorem dL_crossings_13 : decode cL_crossings 13 = .ok (.astore 4, 2) := by decide +kernel
theorem dL_crossings_15 : decode cL_crossings 15 = .ok (.iconst 1, 1) := by decide +kernel
theorem dL_crossings_16 : decode cL_crossings 16 = .ok (.ireturn, 1) := by decide +kernel
theorem dL_crossings_17 : decode cL_crossings 17 = .ok (.astore 4, 2) := by decide +kernel
theorem dL_crossings_19 : decode cL_crossings 19 = .ok (.iconst 2, 1) := by decide +kernel
theorem dL_crossings_20 : decode cL_crossings 20 = .ok (.ireturn, 1) := by decide +kernel
theorem dL_crossings_21 : decode cL_crossings 21 = .ok (.iconst 0, 1) := by decide +kernel
theorem dL_crossings_22 : decode cL_crossings 22 = .ok (.ireturn, 1) := by decide +kernel
set_option maxRecDepth 20000 in
theorem ggL_difference_X3_difference : GoodIn wsL_difference wsX3_difference := goodIn_ca (goodIn_r _ [6, 7, 8, 9, 10, 11, 5, 12, 13, 14, 15, 16, 17, 18, 19, 20, 21, 22, 23, 24, 25, 26, 27, 28, 29, 30, 31, 32, 33, 34, 35, 36, 37, 38, 39, 40, 41, 42, 43, 44, 45, 46, 47, 48, 49, 50, 51, 52, 53, 54, 55, 56, 57, 58, 59, 60, 61, 62, 63, 64, 65, 66, 67, 68, 69, 70, 71] (by decide +kernel) (by decide +kernel)) (goodIn_sub (fun _ h => List.mem_cons_of_mem _ (List.mem_append_right _ h)) (by decide +kernel))
set_option maxRecDepth 20000 in
theorem gL_difference_X3_difference : GoodIn wsL_difference (wsV RL 62 RX3 yX3_difference wsX3_difference) := goodIn_app (goodIn_of _ (by decide +kernel)) ggL_difference_X3_difference
theorem dL_difference_0 : decode cL_difference 0 = .ok (.aload_n 3, 1) := by decide +kernel
theorem dL_difference_1 : decode cL_difference 1 = .ok (.iconst 0, 1) := by decide +kernel
theorem dL_difference_2 : decode cL_difference 2 = .ok (.aload_n 0, 1) := by decide +kernel
theorem dL_difference_3 : decode cL_difference 3 = .ok (.iload_n 1, 1) := by decide +kernel
theorem dL_difference_4 : decode cL_difference 4 = .ok (.iload_n 2, 1) := by decide +kernel
theorem dL_difference_5 : decode cL_difference 5 = .ok (.invokevirtual 62, 3) := by decide +kernel
theorem dL_difference_8 : decode cL_difference 8 = .ok (.i2l, 1) := by decide +kernel
theorem dL_difference_9 : decode cL_difference 9 = .ok (.lastore, 1) := by decide +kernel
theorem dL_difference_10 : decode cL_difference 10 = .ok (.goto 7, 3) := by decide +kernel
theorem dL_difference_13 : decode cL_difference 13 = .ok (.astore 4, 2) := by decide +kernel
theorem dL_difference_15 : decode cL_difference 15 = .ok (.iconst 1, 1) := by decide +kernel
theorem dL_difference_16 : decode cL_difference 16 = .ok (.ireturn, 1) := by decide +kernel
theorem dL_difference_17 : decode cL_difference 17 = .ok (.iconst 0, 1) := by decide +kernel
theorem dL_difference_18 : decode cL_difference 18 = .ok (.ireturn, 1) := by decide +kernel
set_option maxRecDepth 20000 in
theorem ggL_mean_X3_mean : GoodIn wsL_mean wsX3_mean := goodIn_ca (goodIn_r _ [6, 7, 8, 9, 10, 5, 11, 12, 13, 14, 15, 16, 17, 18, 19, 20, 21, 22, 23, 24, 25, 26, 27, 28, 29, 30, 31, 32, 33, 34, 35, 36, 37, 38, 39, 40, 41, 42, 43, 44, 45, 46, 47, 48, 49, 50, 51, 52, 53, 54, 55, 56, 57, 58, 59, 60, 61, 62, 63, 64, 65, 66, 67] (by decide +kernel) (by decide +kernel)) (goodIn_sub (fun _ h => List.mem_cons_of_mem _ (List.mem_append_right _ h)) (by decide +kernel))
set_option maxRecDepth 20000 in
theorem gL_mean_X3_mean : GoodIn wsL_mean (wsV RL 65 RX3 yX3_mean wsX3_mean) := goodIn_app (goodIn_of _ (by decide +kernel)) ggL_mean_X3_mean
theorem dL_mean_0 : decode cL_mean 0 = .ok (.aload_n 2, 1) := by decide +kernel
theorem dL_mean_1 : decode cL_mean 1 = .ok (.iconst 0, 1) := by decide +kernel
theorem dL_mean_2 : decode cL_mean 2 = .ok (.aload_n 0, 1) := by decide +kernel
theorem dL_mean_3 : decode cL_mean 3 = .ok (.iload_n 1, 1) := by decide +kernel
theorem dL_mean_4 : decode cL_mean 4 = .ok (.invokevirtual 65, 3) := by decide +kernel
theorem dL_mean_7 : decode cL_mean 7 = .ok (.dastore, 1) := by decide +kernel
theorem dL_mean_8 : decode cL_mean 8 = .ok (.goto 6, 3) := by decide +kernel
theorem dL_mean_11 : decode cL_mean 11 = .ok (.astore_n 3, 1) := by decide +kernel
theorem dL_mean_12 : decode cL_mean 12 = .ok (.iconst 1, 1) := by decide +kernel
theorem dL_mean_13 : decode cL_mean 13 = .ok (.ireturn, 1) := by decide +kernel
theorem dL_mean_14 : decode cL_mean 14 = .ok (.iconst 0, 1) := by decide +kernel
theorem dL_mean_15 : decode cL_mean 15 = .ok (.ireturn, 1) := by decide +kernel
set_option maxRecDepth 20000 in
theorem ggL_error_X3_error : GoodIn wsL_error wsX3_error := goodIn_ca (goodIn_r _ [6, 7, 8, 9, 10, 5, 11, 12, 13, 14, 15, 16, 17, 18, 19, 20, 21, 22, 23, 24, 25, 26, 27, 28, 29, 30, 31, 32, 33, 34, 35, 36, 37, 38, 39, 40, 41, 42, 43, 44, 45, 46, 47, 48, 49, 50, 51, 52, 53, 54, 55, 56, 57, 58, 59, 60, 61, 62, 63, 64, 65, 66, 67, 68, 69, 70, 71, 72, 73, 74, 75, 76, 77, 78, 79, 80, 81, 82, 83, 84, 85, 86, 87, 88, 89, 90, 91, 92, 93, 94, 95, 96, 97, 98, 99] (by decide +kernel) (by decide +kernel)) (goodIn_sub (fun _ h => List.mem_cons_of_mem _ (List.mem_append_right _ h)) (by decide +kernel))
set_option maxRecDepth 20000 in
theorem gL_error_X3_error : GoodIn wsL_error (wsV RL 69 RX3 yX3_error wsX3_error) := goodIn_app (goodIn_of _ (by decide +kernel)) ggL_error_X3_error
theorem dL_error_0 : decode cL_error 0 = .ok (.aload_n 3, 1) := by decide +kernel
theorem dL_error_1 : decode cL_error 1 = .ok (.iconst 0, 1) := by decide +kernel
theorem dL_error_2 : decode cL_error 2 = .ok (.aload_n 0, 1) := by decide +kernel
theorem dL_error_3 : decode cL_error 3 = .ok (.iload_n 1, 1) := by decide +kernel
theorem dL_error_4 : decode cL_error 4 = .ok (.iload_n 2, 1) := by decide +kernel
theorem dL_error_5 : decode cL_error 5 = .ok (.invokevirtual 69, 3) := by decide +kernel
theorem dL_error_8 : decode cL_error 8 = .ok (.i2l, 1) := by decide +kernel
theorem dL_error_9 : decode cL_error 9 = .ok (.lastore, 1) := by decide +kernel
theorem dL_error_10 : decode cL_error 10 = .ok (.goto 7, 3) := by decide +kernel
theorem dL_error_13 : decode cL_error 13 = .ok (.astore 4, 2) := by decide +kernel
theorem dL_error_15 : decode cL_error 15 = .ok (.iconst 1, 1) := by decide +kernel
theorem dL_error_16 : decode cL_error 16 = .ok (.ireturn, 1) := by decide +kernel
theorem dL_error_17 : decode cL_error 17 = .ok (.iconst 0, 1) := by decide +kernel
theorem dL_error_18 : decode cL_error 18 = .ok (.ireturn, 1) := by decide +kernel
set_option maxRecDepth 20000 in
theorem ggL_greatestStretch_X3_greatestStretch : GoodIn wsL_greatestStretch wsX3_greatestStretch := goodIn_ca (goodIn_ca (goodIn_r _ [7, 8, 9, 10, 6, 11, 12, 13, 14, 15, 16, 17, 18, 19, 20, 21, 22, 23, 24, 25, 26, 27, 28, 29, 30, 31, 32, 33, 34, 35, 36, 37, 38, 39, 40, 41, 42, 43, 44, 45, 46, 47, 48, 49] (by decide +kernel) (by decide +kernel)) (goodIn_sub (fun _ h => List.mem_cons_of_mem _ (List.mem_append_left _ (List.mem_append_right _ h))) (by decide +kernel))) (goodIn_sub (fun _ h => List.mem_cons_of_mem _ (List.mem_append_right _ h)) (by decide +kernel))
set_option maxRecDepth 20000 in
theorem gL_greatestStretch_X3_greatestStretch : GoodIn wsL_greatestStretch (wsV RL 72 RX3 yX3_greatestStretch wsX3_greatestStretch) := goodIn_app (goodIn_of _ (by decide +kernel)) ggL_greatestStretch_X3_greatestStretch
theorem dL_greatestStretch_0 : decode cL_greatestStretch 0 = .ok (.aload 4, 2) := by decide +kernel
theorem dL_greatestStretch_2 : decode cL_greatestStretch 2 = .ok (.iconst 0, 1) := by decide +kernel
theorem dL_greatestStretch_3 : decode cL_greatestStretch 3 = .ok (.aload_n 0, 1) := by decide +kernel
theorem dL_greatestStretch_4 : decode cL_greatestStretch 4 = .ok (.iload_n 1, 1) := by decide +kernel
theorem dL_greatestStretch_5 : decode cL_greatestStretch 5 = .ok (.iload_n 2, 1) := by decide +kernel
theorem dL_greatestStretch_6 : decode cL_greatestStretch 6 = .ok (.iload_n 3, 1) := by decide +kernel
theorem dL_greatestStretch_7 : decode cL_greatestStretch 7 = .ok (.invokevirtual 72, 3) := by decide +kernel
theorem dL_greatestStretch_10 : decode cL_greatestStretch 10 = .ok (.i2l, 1) := by decide +kernel
theorem dL_greatestStretch_11 : decode cL_greatestStretch 11 = .ok (.lastore, 1) := by decide +kernel
theorem dL_greatestStretch_12 : decode cL_greatestStretch 12 = .ok (.goto 11, 3) := by decide +kernel
theorem dL_greatestStretch_15 : decode cL_greatestStretch 15 = .ok (.astore 5, 2) := by decide +kernel
theorem dL_greatestStretch_17 : decode cL_greatestStretch 17 = .ok (.iconst 1, 1) := by decide +kernel
theorem dL_greatestStretch_18 : decode cL_greatestStretch 18 = .ok (.ireturn, 1) := by decide +kernel
theorem dL_greatestStretch_19 : decode cL_greatestStretch 19 = .ok (.astore 5, 2) := by decide +kernel
theorem dL_greatestStretch_21 : decode cL_greatestStretch 21 = .ok (.iconst 2, 1) := by decide +kernel
theorem dL_greatestStretch_22 : decode cL_greatestStretch 22 = .ok (.ireturn, 1) := by decide +kernel
theorem dL_greatestStretch_23 : decode cL_greatestStretch 23 = .ok (.iconst 0, 1) := by decide +kernel
theorem dL_greatestStretch_24 : decode cL_greatestStretch 24 = .ok (.ireturn, 1) := by decide +kernel
set_option maxRecDepth 20000 in
theorem ggL_leastEase_X3_leastEase : GoodIn wsL_leastEase wsX3_leastEase := goodIn_ca (goodIn_r _ [6, 7, 8, 9, 10, 11, 12, 5, 13, 14, 15, 16, 17, 18, 19, 20, 21, 22, 23, 24, 25, 26, 27, 28, 29, 30, 31, 32, 33, 34, 35, 36, 37, 38, 39, 40, 41, 42, 43, 44, 45, 46, 47, 48, 49, 50, 51, 52, 53, 54, 55, 56, 57, 58, 59, 60, 61, 62, 63, 64, 65, 66, 67, 68, 69, 70, 71, 72, 73, 74, 75, 76, 77, 78, 79, 80] (by decide +kernel) (by decide +kernel)) (goodIn_sub (fun _ h => List.mem_cons_of_mem _ (List.mem_append_right _ h)) (by decide +kernel))
set_option maxRecDepth 20000 in
theorem gL_leastEase_X3_leastEase : GoodIn wsL_leastEase (wsV RL 75 RX3 yX3_leastEase wsX3_leastEase) := goodIn_app (goodIn_of _ (by decide +kernel)) ggL_leastEase_X3_leastEase
theorem dL_leastEase_0 : decode cL_leastEase 0 = .ok (.aload_n 3, 1) := by decide +kernel
theorem dL_leastEase_1 : decode cL_leastEase 1 = .ok (.iconst 0, 1) := by decide +kernel
theorem dL_leastEase_2 : decode cL_leastEase 2 = .ok (.aload_n 0, 1) := by decide +kernel
theorem dL_leastEase_3 : decode cL_leastEase 3 = .ok (.iload_n 1, 1) := by decide +kernel
theorem dL_leastEase_4 : decode cL_leastEase 4 = .ok (.iload_n 2, 1) := by decide +kernel
theorem dL_leastEase_5 : decode cL_leastEase 5 = .ok (.invokevirtual 75, 3) := by decide +kernel
theorem dL_leastEase_8 : decode cL_leastEase 8 = .ok (.i2l, 1) := by decide +kernel
theorem dL_leastEase_9 : decode cL_leastEase 9 = .ok (.lastore, 1) := by decide +kernel
theorem dL_leastEase_10 : decode cL_leastEase 10 = .ok (.goto 7, 3) := by decide +kernel
theorem dL_leastEase_13 : decode cL_leastEase 13 = .ok (.astore 4, 2) := by decide +kernel
theorem dL_leastEase_15 : decode cL_leastEase 15 = .ok (.iconst 1, 1) := by decide +kernel
theorem dL_leastEase_16 : decode cL_leastEase 16 = .ok (.ireturn, 1) := by decide +kernel
theorem dL_leastEase_17 : decode cL_leastEase 17 = .ok (.iconst 0, 1) := by decide +kernel
theorem dL_leastEase_18 : decode cL_leastEase 18 = .ok (.ireturn, 1) := by decide +kernel
set_option maxRecDepth 20000 in
theorem ggL_append_X3_append : GoodIn wsL_append wsX3_append := goodIn_ca (goodIn_ca (goodIn_r _ [7, 8, 9, 10, 11, 12, 6, 13, 14, 15, 16, 17, 18, 19, 20, 21, 22, 23, 24, 25, 26, 27, 28, 29, 30, 31] (by decide +kernel) (by decide +kernel)) (goodIn_sub (fun _ h => List.mem_cons_of_mem _ (List.mem_append_left _ (List.mem_append_right _ h))) (by decide +kernel))) (goodIn_sub (fun _ h => List.mem_cons_of_mem _ (List.mem_append_right _ h)) (by decide +kernel))
set_option maxRecDepth 20000 in
theorem gL_append_X3_append : GoodIn wsL_append (wsV RL 78 RX3 yX3_append wsX3_append) := goodIn_app (goodIn_of _ (by decide +kernel)) ggL_append_X3_append
theorem dL_append_0 : decode cL_append 0 = .ok (.aload_n 2, 1) := by decide +kernel
theorem dL_append_1 : decode cL_append 1 = .ok (.iconst 0, 1) := by decide +kernel
theorem dL_append_2 : decode cL_append 2 = .ok (.aload_n 0, 1) := by decide +kernel
theorem dL_append_3 : decode cL_append 3 = .ok (.iload_n 1, 1) := by decide +kernel
theorem dL_append_4 : decode cL_append 4 = .ok (.invokevirtual 78, 3) := by decide +kernel
theorem dL_append_7 : decode cL_append 7 = .ok (.i2l, 1) := by decide +kernel
theorem dL_append_8 : decode cL_append 8 = .ok (.lastore, 1) := by decide +kernel
theorem dL_append_9 : decode cL_append 9 = .ok (.goto 9, 3) := by decide +kernel
theorem dL_append_12 : decode cL_append 12 = .ok (.astore_n 3, 1) := by decide +kernel
theorem dL_append_13 : decode cL_append 13 = .ok (.iconst 1, 1) := by decide +kernel
theorem dL_append_14 : decode cL_append 14 = .ok (.ireturn, 1) := by decide +kernel
theorem dL_append_15 : decode cL_append 15 = .ok (.astore_n 3, 1) := by decide +kernel
theorem dL_append_16 : decode cL_append 16 = .ok (.iconst 2, 1) := by decide +kernel
theorem dL_append_17 : decode cL_append 17 = .ok (.ireturn, 1) := by decide +kernel
theorem dL_append_18 : decode cL_append 18 = .ok (.iconst 0, 1) := by decide +kernel
theorem dL_append_19 : decode cL_append 19 = .ok (.ireturn, 1) := by decide +kernel
set_option maxRecDepth 20000 in
theorem ggL_parse_X3_parse : GoodIn wsL_parse wsX3_parse := goodIn_ca (goodIn_ca (goodIn_r _ [7, 8, 9, 10, 11, 12, 6, 13, 14, 15, 16, 17, 18, 19, 20, 21, 22, 23, 24, 25, 26, 27, 28, 29, 30, 31, 32, 33, 34, 35, 36, 37, 38, 39, 40, 41, 42, 43, 44, 45, 46, 47, 48, 49, 50, 51, 52, 53, 54, 55, 56, 57, 58, 59, 60, 61, 62, 63, 64, 65, 66, 67, 68, 69, 70, 71, 72, 73, 74, 75, 76, 77, 78, 79, 80, 81, 82, 83, 84, 85, 86, 87, 88, 89, 90, 91, 92, 93, 94, 95, 96, 97, 98, 99, 100, 101, 102, 103, 104, 105, 106, 107, 108, 109, 110, 111] (by decide +kernel) (by decide +kernel)) (goodIn_sub (fun _ h => List.mem_cons_of_mem _ (List.mem_append_left _ (List.mem_append_right _ h))) (by decide +kernel))) (goodIn_sub (fun _ h => List.mem_cons_of_mem _ (List.mem_append_right _ h)) (by decide +kernel))
set_option maxRecDepth 20000 in
theorem gL_parse_X3_parse : GoodIn wsL_parse (wsV RL 82 RX3 yX3_parse wsX3_parse) := goodIn_app (goodIn_of _ (by decide +kernel)) ggL_parse_X3_parse
theorem dL_parse_0 : decode cL_parse 0 = .ok (.aload_n 2, 1) := by decide +kernel
theorem dL_parse_1 : decode cL_parse 1 = .ok (.iconst 0, 1) := by decide +kernel
theorem dL_parse_2 : decode cL_parse 2 = .ok (.aload_n 0, 1) := by decide +kernel
theorem dL_parse_3 : decode cL_parse 3 = .ok (.iload_n 1, 1) := by decide +kernel
theorem dL_parse_4 : decode cL_parse 4 = .ok (.invokevirtual 82, 3) := by decide +kernel
theorem dL_parse_7 : decode cL_parse 7 = .ok (.i2l, 1) := by decide +kernel
theorem dL_parse_8 : decode cL_parse 8 = .ok (.lastore, 1) := by decide +kernel
theorem dL_parse_9 : decode cL_parse 9 = .ok (.goto 9, 3) := by decide +kernel
theorem dL_parse_12 : decode cL_parse 12 = .ok (.astore_n 3, 1) := by decide +kernel
theorem dL_parse_13 : decode cL_parse 13 = .ok (.iconst 1, 1) := by decide +kernel
theorem dL_parse_14 : decode cL_parse 14 = .ok (.ireturn, 1) := by decide +kernel
theorem dL_parse_15 : decode cL_parse 15 = .ok (.astore_n 3, 1) := by decide +kernel
theorem dL_parse_16 : decode cL_parse 16 = .ok (.iconst 2, 1) := by decide +kernel
theorem dL_parse_17 : decode cL_parse 17 = .ok (.ireturn, 1) := by decide +kernel
theorem dL_parse_18 : decode cL_parse 18 = .ok (.iconst 0, 1) := by decide +kernel
theorem dL_parse_19 : decode cL_parse 19 = .ok (.ireturn, 1) := by decide +kernel
set_option maxRecDepth 20000 in
theorem ggL_undo_X3_undo : GoodIn wsL_undo wsX3_undo := goodIn_ca (goodIn_r _ [6, 7, 8, 9, 10, 11, 12, 13, 14, 15, 16, 17, 18, 19, 20, 21, 22, 23, 24, 25, 26, 27, 28, 29, 30, 31, 32, 33, 34, 35, 36] (by decide +kernel) (by decide +kernel)) (goodIn_sub (fun _ h => List.mem_cons_of_mem _ (List.mem_append_right _ h)) (by decide +kernel))
set_option maxRecDepth 20000 in
theorem gL_undo_X3_undo : GoodIn wsL_undo (wsV RL 85 RX3 yX3_undo wsX3_undo) := goodIn_app (goodIn_of _ (by decide +kernel)) ggL_undo_X3_undo
theorem dL_undo_0 : decode cL_undo 0 = .ok (.aload_n 1, 1) := by decide +kernel
theorem dL_undo_1 : decode cL_undo 1 = .ok (.iconst 0, 1) := by decide +kernel
theorem dL_undo_2 : decode cL_undo 2 = .ok (.aload_n 0, 1) := by decide +kernel
theorem dL_undo_3 : decode cL_undo 3 = .ok (.invokevirtual 85, 3) := by decide +kernel
theorem dL_undo_6 : decode cL_undo 6 = .ok (.i2l, 1) := by decide +kernel
theorem dL_undo_7 : decode cL_undo 7 = .ok (.lastore, 1) := by decide +kernel
theorem dL_undo_8 : decode cL_undo 8 = .ok (.goto 6, 3) := by decide +kernel
theorem dL_undo_11 : decode cL_undo 11 = .ok (.astore_n 2, 1) := by decide +kernel
theorem dL_undo_12 : decode cL_undo 12 = .ok (.iconst 1, 1) := by decide +kernel
theorem dL_undo_13 : decode cL_undo 13 = .ok (.ireturn, 1) := by decide +kernel
theorem dL_undo_14 : decode cL_undo 14 = .ok (.iconst 0, 1) := by decide +kernel
theorem dL_undo_15 : decode cL_undo 15 = .ok (.ireturn, 1) := by decide +kernel
set_option maxRecDepth 20000 in
theorem ggL_law_X3_init : GoodIn wsL_law wsX3_init := goodIn_r _ [10, 11, 12, 13, 14, 15, 16, 17, 18, 19, 20, 21, 22, 23, 24, 25, 26, 27, 28, 29, 30, 31, 32, 33, 34, 35, 36, 37, 38, 39, 40, 41, 42, 43, 44, 45, 46, 47, 684, 666, 667, 668, 669, 670, 671, 672, 685, 686, 687, 688, 689] (by decide +kernel) (by decide +kernel)
set_option maxRecDepth 20000 in
theorem gL_law_X3_init : GoodIn wsL_law (wsX3_init) := ggL_law_X3_init
set_option maxRecDepth 20000 in
theorem ggL_law_X4_init : GoodIn wsL_law wsX4_init := goodIn_r _ [50, 51, 12, 13, 28, 52, 53, 54, 55, 56, 57, 58, 673, 674, 675, 676, 677, 678, 679, 680, 681, 682, 683] (by decide +kernel) (by decide +kernel)
set_option maxRecDepth 20000 in
theorem gL_law_X4_init : GoodIn wsL_law (wsX4_init) := ggL_law_X4_init
set_option maxRecDepth 20000 in
theorem ggL_law_L_addKey : GoodIn wsL_law wsL_addKey := goodIn_ca (goodIn_ca (goodIn_ca (goodIn_r _ [62, 63, 64, 65, 66, 67, 68, 2, 69, 70, 71, 72, 73, 74, 75, 76, 77, 17, 78, 79, 80, 81, 82, 83, 26, 84, 85, 86, 87, 88, 89, 39, 90, 91, 92, 93, 40, 94, 95, 96, 97, 19, 18, 98, 99, 100, 101, 102, 16, 103, 104, 35, 105, 106, 107, 108, 109, 110, 111, 112, 113, 114, 115, 116, 117, 118, 688, 689, 666, 667, 668, 669, 670, 671, 672, 684] (by decide +kernel) (by decide +kernel)) (goodIn_sub (fun _ h => List.mem_append_left _ (List.mem_append_left _ (List.mem_append_right _ h))) (by decide +kernel))) (goodIn_sub (fun _ h => List.mem_append_left _ (List.mem_append_right _ h)) (by decide +kernel))) (goodIn_sub (fun _ h => List.mem_append_right _ h) (by decide +kernel))
set_option maxRecDepth 20000 in
theorem gL_law_L_addKey : GoodIn wsL_law (va_wsS RL 93 yL_addKey wsL_addKey) := goodIn_app (goodIn_of _ (by decide +kernel)) ggL_law_L_addKey
set_option maxRecDepth 20000 in
theorem ggL_law_X4_addKey : GoodIn wsL_law wsX4_addKey := goodIn_r _ [122, 123, 124, 5, 125, 126, 127, 128, 129, 130, 131, 132, 133, 134, 135, 136, 137, 138, 139, 140, 141, 142, 143, 52, 144, 145, 146, 147, 148, 149, 150, 151, 152, 153, 154, 155, 156, 157, 158, 54, 159, 160, 161, 162, 163, 164, 165, 166, 167, 53, 168, 169, 170, 171, 673, 674, 675, 676, 677, 678, 679, 680, 681, 682, 683] (by decide +kernel) (by decide +kernel)
set_option maxRecDepth 20000 in
theorem gL_law_X4_addKey : GoodIn wsL_law (wsV RL 98 RX4 yX4_addKey wsX4_addKey) := goodIn_app (goodIn_of _ (by decide +kernel)) ggL_law_X4_addKey
set_option maxRecDepth 20000 in
theorem ggL_law_X4_thrown : GoodIn wsL_law wsX4_thrown := goodIn_r _ [175, 133, 673, 674, 675, 676, 677, 678, 679, 680, 681, 682, 683] (by decide +kernel) (by decide +kernel)
set_option maxRecDepth 20000 in
theorem gL_law_X4_thrown : GoodIn wsL_law (wsV RL 99 RX4 yX4_thrown wsX4_thrown) := goodIn_app (goodIn_of _ (by decide +kernel)) ggL_law_X4_thrown
set_option maxRecDepth 20000 in
theorem ggL_law_L_removeKey : GoodIn wsL_law wsL_removeKey := goodIn_ca (goodIn_ca (goodIn_r _ [178, 63, 65, 179, 180, 181, 2, 182, 72, 73, 74, 75, 76, 77, 17, 183, 184, 185, 186, 187, 188, 70, 71, 189, 26, 190, 191, 90, 91, 92, 93, 39, 40, 94, 95, 96, 97, 19, 18, 98, 99, 100, 101, 102, 16, 103, 104, 35, 105, 106, 107, 108, 109, 110, 111, 192, 193, 194, 688, 689, 666, 667, 668, 669, 670, 671, 672, 684] (by decide +kernel) (by decide +kernel)) (goodIn_sub (fun _ h => List.mem_append_left _ (List.mem_append_right _ h)) (by decide +kernel))) (goodIn_sub (fun _ h => List.mem_append_left _ (List.mem_append_left _ (List.mem_append_right _ h))) (by decide +kernel))
set_option maxRecDepth 20000 in
theorem gL_law_L_removeKey : GoodIn wsL_law (va_wsS RL 102 yL_removeKey wsL_removeKey) := goodIn_app (goodIn_of _ (by decide +kernel)) ggL_law_L_removeKey
set_option maxRecDepth 20000 in
theorem ggL_law_X4_removeKey : GoodIn wsL_law wsX4_removeKey := goodIn_r _ [198, 199, 200, 201, 5, 202, 123, 124, 125, 126, 127, 128, 140, 141, 142, 143, 52, 129, 130, 131, 132, 133, 148, 149, 150, 151, 152, 153, 154, 155, 156, 157, 158, 54, 203, 204, 205, 206, 163, 164, 165, 166, 167, 53, 168, 169, 170, 171, 673, 674, 675, 676, 677, 678, 679, 680, 681, 682, 683] (by decide +kernel) (by decide +kernel)
set_option maxRecDepth 20000 in
theorem gL_law_X4_removeKey : GoodIn wsL_law (wsV RL 105 RX4 yX4_removeKey wsX4_removeKey) := goodIn_app (goodIn_of _ (by decide +kernel)) ggL_law_X4_removeKey
set_option maxRecDepth 20000 in
theorem ggL_law_L_setKey : GoodIn wsL_law wsL_setKey := goodIn_ca (goodIn_ca (goodIn_ca (goodIn_r _ [209, 63, 64, 65, 210, 211, 212, 2, 213, 72, 73, 74, 75, 76, 77, 17, 183, 184, 185, 78, 79, 80, 81, 82, 186, 187, 188, 70, 71, 189, 26, 190, 191, 90, 91, 92, 93, 39, 40, 94, 95, 96, 97, 19, 18, 98, 99, 100, 101, 102, 16, 103, 104, 35, 105, 106, 107, 108, 109, 110, 111, 116, 117, 118, 666, 667, 668, 669, 670, 671, 672, 684, 688, 689] (by decide +kernel) (by decide +kernel)) (goodIn_sub (fun _ h => List.mem_append_left _ (List.mem_append_right _ h)) (by decide +kernel))) (goodIn_sub (fun _ h => List.mem_append_right _ h) (by decide +kernel))) (goodIn_sub (fun _ h => List.mem_append_left _ (List.mem_append_left _ (List.mem_append_right _ h))) (by decide +kernel))
set_option maxRecDepth 20000 in
theorem gL_law_L_setKey : GoodIn wsL_law (va_wsS RL 106 yL_setKey wsL_setKey) := goodIn_app (goodIn_of _ (by decide +kernel)) ggL_law_L_setKey
set_option maxRecDepth 20000 in
theorem ggL_law_X4_setKey : GoodIn wsL_law wsX4_setKey := goodIn_r _ [217, 52, 199, 200, 201, 5, 202, 123, 124, 125, 126, 127, 128, 140, 141, 142, 143, 129, 130, 131, 132, 133, 137, 138, 139, 148, 149, 150, 151, 152, 153, 154, 155, 156, 157, 158, 54, 163, 164, 165, 166, 167, 53, 168, 169, 170, 171, 673, 674, 675, 676, 677, 678, 679, 680, 681, 682, 683] (by decide +kernel) (by decide +kernel)
set_option maxRecDepth 20000 in
theorem gL_law_X4_setKey : GoodIn wsL_law (wsV RL 108 RX4 yX4_setKey wsX4_setKey) := goodIn_app (goodIn_of _ (by decide +kernel)) ggL_law_X4_setKey
set_option maxRecDepth 20000 in
theorem ggL_law_L_moveKey : GoodIn wsL_law wsL_moveKey := goodIn_ca (goodIn_ca (goodIn_ca (goodIn_r _ [220, 63, 64, 65, 221, 222, 223, 2, 224, 70, 71, 72, 73, 74, 75, 76, 77, 17, 183, 184, 185, 78, 79, 80, 81, 82, 186, 187, 188, 189, 26, 190, 191, 90, 91, 92, 93, 39, 40, 83, 84, 85, 86, 87, 88, 89, 94, 95, 96, 97, 19, 18, 98, 99, 100, 101, 102, 16, 103, 104, 35, 105, 106, 107, 108, 109, 110, 111, 225, 226, 227, 228, 192, 193, 194, 229, 112, 113, 114, 115, 116, 117, 118, 666, 667, 668, 669, 670, 671, 672, 684, 688, 689] (by decide +kernel) (by decide +kernel)) (goodIn_sub (fun _ h => List.mem_append_left _ (List.mem_append_left _ (List.mem_append_right _ h))) (by decide +kernel))) (goodIn_sub (fun _ h => List.mem_append_left _ (List.mem_append_right _ h)) (by decide +kernel))) (goodIn_sub (fun _ h => List.mem_append_right _ h) (by decide +kernel))
set_option maxRecDepth 20000 in
theorem gL_law_L_moveKey : GoodIn wsL_law (va_wsS RL 109 yL_moveKey wsL_moveKey) := goodIn_app (goodIn_of _ (by decide +kernel)) ggL_law_L_moveKey
set_option maxRecDepth 20000 in
theorem ggL_law_X4_moveKey : GoodIn wsL_law wsX4_moveKey := goodIn_r _ [233, 52, 199, 200, 201, 5, 202, 123, 124, 125, 126, 127, 128, 140, 141, 142, 143, 129, 130, 131, 132, 133, 134, 135, 136, 144, 145, 146, 147, 148, 149, 150, 151, 152, 153, 154, 155, 156, 157, 158, 54, 203, 204, 205, 206, 159, 160, 161, 162, 163, 164, 165, 166, 167, 53, 168, 169, 170, 171, 673, 674, 675, 676, 677, 678, 679, 680, 681, 682, 683] (by decide +kernel) (by decide +kernel)
set_option maxRecDepth 20000 in
theorem gL_law_X4_moveKey : GoodIn wsL_law (wsV RL 112 RX4 yX4_moveKey wsX4_moveKey) := goodIn_app (goodIn_of _ (by decide +kernel)) ggL_law_X4_moveKey
set_option maxRecDepth 20000 in
theorem ggL_law_L_setTangent : GoodIn wsL_law wsL_setTangent := goodIn_ca (goodIn_ca (goodIn_ca (goodIn_r _ [236, 63, 64, 65, 237, 238, 239, 2, 240, 241, 242, 72, 73, 74, 75, 76, 77, 17, 183, 184, 185, 78, 79, 80, 81, 82, 186, 187, 188, 70, 71, 189, 26, 190, 191, 90, 91, 92, 93, 39, 40, 94, 95, 96, 97, 19, 18, 98, 99, 100, 101, 102, 16, 103, 104, 35, 105, 106, 107, 108, 109, 110, 111, 243, 244, 245, 246, 247, 248, 116, 117, 118, 666, 667, 668, 669, 670, 671, 672, 684, 688, 689] (by decide +kernel) (by decide +kernel)) (goodIn_sub (fun _ h => List.mem_append_left _ (List.mem_append_right _ h)) (by decide +kernel))) (goodIn_sub (fun _ h => List.mem_append_right _ h) (by decide +kernel))) (goodIn_sub (fun _ h => List.mem_append_left _ (List.mem_append_left _ (List.mem_append_right _ h))) (by decide +kernel))
set_option maxRecDepth 20000 in
theorem gL_law_L_setTangent : GoodIn wsL_law (va_wsS RL 113 yL_setTangent wsL_setTangent) := goodIn_app (goodIn_of _ (by decide +kernel)) ggL_law_L_setTangent
set_option maxRecDepth 20000 in
theorem ggL_law_X4_setTangent : GoodIn wsL_law wsX4_setTangent := goodIn_r _ [252, 253, 254, 52, 199, 200, 201, 5, 202, 123, 124, 125, 126, 127, 128, 140, 141, 142, 143, 129, 130, 131, 132, 133, 148, 149, 150, 151, 152, 153, 154, 155, 156, 157, 158, 54, 255, 256, 257, 258, 163, 164, 165, 166, 167, 53, 168, 169, 170, 171, 673, 674, 675, 676, 677, 678, 679, 680, 681, 682, 683] (by decide +kernel) (by decide +kernel)
set_option maxRecDepth 20000 in
theorem gL_law_X4_setTangent : GoodIn wsL_law (wsV RL 115 RX4 yX4_setTangent wsX4_setTangent) := goodIn_app (goodIn_of _ (by decide +kernel)) ggL_law_X4_setTangent
set_option maxRecDepth 20000 in
theorem ggL_law_L_lock : GoodIn wsL_law wsL_lock := goodIn_ca (goodIn_r _ [261, 63, 262, 263, 264, 2, 265, 72, 73, 74, 75, 76, 77, 17, 183, 184, 185, 94, 95, 96, 97, 19, 18, 98, 99, 100, 101, 102, 16, 103, 104, 35, 105, 26, 106, 107, 39, 40, 108, 109, 110, 111, 91, 92, 93, 116, 117, 118, 666, 667, 668, 669, 670, 671, 672, 684, 688, 689] (by decide +kernel) (by decide +kernel)) (goodIn_sub (fun _ h => List.mem_append_left _ (List.mem_append_right _ h)) (by decide +kernel))
set_option maxRecDepth 20000 in
theorem gL_law_L_lock : GoodIn wsL_law (va_wsS RL 116 yL_lock wsL_lock) := goodIn_app (goodIn_of _ (by decide +kernel)) ggL_law_L_lock
set_option maxRecDepth 20000 in
theorem ggL_law_X4_lock : GoodIn wsL_law wsX4_lock := goodIn_r _ [269, 52, 199, 200, 201, 5, 202, 123, 124, 125, 126, 127, 128, 140, 141, 142, 143, 129, 130, 131, 132, 133, 155, 156, 157, 158, 54, 148, 149, 150, 151, 152, 153, 154, 163, 164, 165, 166, 167, 53, 168, 169, 170, 171, 673, 674, 675, 676, 677, 678, 679, 680, 681, 682, 683] (by decide +kernel) (by decide +kernel)
set_option maxRecDepth 20000 in
theorem gL_law_X4_lock : GoodIn wsL_law (wsV RL 119 RX4 yX4_lock wsX4_lock) := goodIn_app (goodIn_of _ (by decide +kernel)) ggL_law_X4_lock
set_option maxRecDepth 20000 in
theorem ggL_law_L_stretch : GoodIn wsL_law wsL_stretch := goodIn_ca (goodIn_ca (goodIn_ca (goodIn_r _ [272, 63, 64, 65, 273, 274, 275, 2, 276, 70, 71, 72, 73, 74, 75, 76, 77, 17, 277, 278, 279, 78, 79, 80, 81, 82, 280, 26, 281, 282, 39, 90, 91, 92, 93, 40, 283, 284, 285, 286, 189, 190, 191, 94, 95, 96, 97, 19, 18, 98, 99, 100, 101, 102, 16, 103, 104, 35, 105, 106, 107, 108, 109, 110, 111, 287, 288, 289, 115, 116, 117, 118, 666, 667, 668, 669, 670, 671, 672, 684, 688, 689] (by decide +kernel) (by decide +kernel)) (goodIn_sub (fun _ h => List.mem_append_left _ (List.mem_append_left _ (List.mem_append_right _ h))) (by decide +kernel))) (goodIn_sub (fun _ h => List.mem_append_left _ (List.mem_append_right _ h)) (by decide +kernel))) (goodIn_sub (fun _ h => List.mem_append_right _ h) (by decide +kernel))
set_option maxRecDepth 20000 in
theorem gL_law_L_stretch : GoodIn wsL_law (va_wsS RL 120 yL_stretch wsL_stretch) := goodIn_app (goodIn_of _ (by decide +kernel)) ggL_law_L_stretch
set_option maxRecDepth 20000 in
theorem ggL_law_X4_stretch : GoodIn wsL_law wsX4_stretch := goodIn_r _ [293, 52, 123, 124, 5, 125, 126, 127, 128, 129, 130, 131, 132, 133, 294, 295, 296, 297, 298, 299, 300, 140, 141, 142, 143, 148, 149, 150, 151, 152, 153, 154, 301, 302, 303, 155, 156, 157, 158, 54, 163, 164, 165, 166, 167, 53, 168, 169, 170, 171, 673, 674, 675, 676, 677, 678, 679, 680, 681, 682, 683] (by decide +kernel) (by decide +kernel)
set_option maxRecDepth 20000 in
theorem gL_law_X4_stretch : GoodIn wsL_law (wsV RL 122 RX4 yX4_stretch wsX4_stretch) := goodIn_app (goodIn_of _ (by decide +kernel)) ggL_law_X4_stretch
set_option maxRecDepth 20000 in
theorem ggL_law_L_copy : GoodIn wsL_law wsL_copy := goodIn_ca (goodIn_ca (goodIn_ca (goodIn_r _ [306, 63, 64, 65, 307, 308, 309, 2, 310, 70, 71, 72, 73, 74, 75, 76, 77, 17, 78, 79, 80, 81, 82, 311, 312, 313, 314, 26, 315, 316, 39, 286, 189, 190, 191, 90, 91, 92, 93, 40, 317, 318, 319, 320, 321, 322, 323, 94, 95, 96, 97, 19, 18, 98, 99, 100, 101, 102, 16, 103, 104, 35, 105, 106, 107, 108, 109, 110, 111, 324, 325, 326, 115, 116, 117, 118, 688, 689, 666, 667, 668, 669, 670, 671, 672, 684] (by decide +kernel) (by decide +kernel)) (goodIn_sub (fun _ h => List.mem_append_left _ (List.mem_append_left _ (List.mem_append_right _ h))) (by decide +kernel))) (goodIn_sub (fun _ h => List.mem_append_left _ (List.mem_append_right _ h)) (by decide +kernel))) (goodIn_sub (fun _ h => List.mem_append_right _ h) (by decide +kernel))
set_option maxRecDepth 20000 in
theorem gL_law_L_copy : GoodIn wsL_law (va_wsS RL 123 yL_copy wsL_copy) := goodIn_app (goodIn_of _ (by decide +kernel)) ggL_law_L_copy
set_option maxRecDepth 20000 in
theorem ggL_law_X4_copy : GoodIn wsL_law wsX4_copy := goodIn_r _ [330, 52, 123, 124, 5, 125, 126, 127, 128, 129, 130, 131, 132, 133, 137, 138, 139, 331, 332, 333, 334, 140, 141, 142, 143, 148, 149, 150, 151, 152, 153, 154, 155, 156, 157, 158, 54, 163, 164, 165, 166, 167, 53, 168, 169, 170, 171, 673, 674, 675, 676, 677, 678, 679, 680, 681, 682, 683] (by decide +kernel) (by decide +kernel)
set_option maxRecDepth 20000 in
theorem gL_law_X4_copy : GoodIn wsL_law (wsV RL 125 RX4 yX4_copy wsX4_copy) := goodIn_app (goodIn_of _ (by decide +kernel)) ggL_law_X4_copy
set_option maxRecDepth 20000 in
theorem ggL_law_L_reduce : GoodIn wsL_law wsL_reduce := goodIn_ca (goodIn_ca (goodIn_r _ [337, 63, 64, 338, 339, 340, 2, 341, 72, 73, 74, 75, 76, 77, 17, 78, 79, 80, 81, 82, 94, 95, 96, 97, 19, 18, 98, 99, 100, 101, 102, 16, 103, 104, 35, 105, 26, 106, 107, 39, 40, 108, 109, 110, 111, 342, 343, 344, 345, 29, 346, 347, 348, 86, 87, 88, 89, 90, 91, 92, 93, 349, 350, 351, 352, 353, 354, 322, 355, 356, 357, 358, 359, 360, 361, 243, 244, 245, 246, 247, 248, 362, 363, 364, 365, 366, 367, 368, 286, 189, 190, 191, 369, 370, 371, 372, 373, 374, 375, 376, 27, 30, 192, 193, 194, 377, 378, 379, 380, 381, 321, 323, 666, 667, 668, 669, 670, 671, 672, 684, 688, 689] (by decide +kernel) (by decide +kernel)) (goodIn_sub (fun _ h => List.mem_append_left _ (List.mem_append_right _ h)) (by decide +kernel))) (goodIn_sub (fun _ h => List.mem_append_right _ h) (by decide +kernel))
set_option maxRecDepth 20000 in
theorem gL_law_L_reduce : GoodIn wsL_law (va_wsS RL 126 yL_reduce wsL_reduce) := goodIn_app (goodIn_of _ (by decide +kernel)) ggL_law_L_reduce
set_option maxRecDepth 20000 in
theorem ggL_law_X4_reduce : GoodIn wsL_law wsX4_reduce := goodIn_r _ [385, 123, 124, 5, 125, 126, 127, 128, 129, 130, 131, 132, 133, 155, 156, 157, 158, 54, 52, 386, 387, 388, 389, 390, 391, 392, 393, 57, 394, 395, 396, 397, 398, 399, 400, 401, 402, 403, 140, 141, 142, 143, 148, 149, 150, 151, 152, 153, 154, 255, 256, 257, 258, 404, 405, 406, 407, 55, 203, 204, 205, 206, 408, 409, 410, 163, 164, 165, 166, 167, 53, 168, 169, 170, 171, 673, 674, 675, 676, 677, 678, 679, 680, 681, 682, 683] (by decide +kernel) (by decide +kernel)
set_option maxRecDepth 20000 in
theorem gL_law_X4_reduce : GoodIn wsL_law (wsV RL 128 RX4 yX4_reduce wsX4_reduce) := goodIn_app (goodIn_of _ (by decide +kernel)) ggL_law_X4_reduce
set_option maxRecDepth 20000 in
theorem ggL_law_L_key : GoodIn wsL_law wsL_key := goodIn_ca (goodIn_ca (goodIn_r _ [413, 63, 64, 414, 415, 416, 2, 417, 72, 73, 74, 75, 76, 77, 17, 183, 184, 185, 78, 79, 80, 81, 82, 418, 419, 420, 243, 26, 244, 245, 39, 90, 91, 92, 93, 40, 246, 247, 248, 688, 689, 666, 667, 668, 669, 670, 671, 672, 684] (by decide +kernel) (by decide +kernel)) (goodIn_sub (fun _ h => List.mem_append_left _ (List.mem_append_right _ h)) (by decide +kernel))) (goodIn_sub (fun _ h => List.mem_append_right _ h) (by decide +kernel))
set_option maxRecDepth 20000 in
theorem gL_law_L_key : GoodIn wsL_law (va_wsS RL 129 yL_key wsL_key) := goodIn_app (goodIn_of _ (by decide +kernel)) ggL_law_L_key
set_option maxRecDepth 20000 in
theorem ggL_law_X4_key : GoodIn wsL_law wsX4_key := goodIn_r _ [424, 123, 124, 5, 125, 126, 127, 128, 140, 141, 142, 143, 52, 129, 130, 131, 132, 133, 425, 426, 427, 428, 148, 149, 150, 151, 152, 153, 154, 255, 256, 257, 258, 168, 169, 170, 171, 673, 674, 675, 676, 677, 678, 679, 680, 681, 682, 683] (by decide +kernel) (by decide +kernel)
set_option maxRecDepth 20000 in
theorem gL_law_X4_key : GoodIn wsL_law (wsV RL 131 RX4 yX4_key wsX4_key) := goodIn_app (goodIn_of _ (by decide +kernel)) ggL_law_X4_key
set_option maxRecDepth 20000 in
theorem ggL_law_L_value : GoodIn wsL_law wsL_value := goodIn_ca (goodIn_ca (goodIn_r _ [431, 63, 64, 432, 433, 434, 2, 435, 72, 73, 74, 75, 76, 77, 17, 78, 79, 80, 81, 82, 436, 26, 437, 438, 86, 87, 88, 89, 39, 90, 91, 92, 93, 40, 349, 350, 351, 352, 353, 354, 322, 355, 356, 357, 358, 359, 360, 361, 243, 244, 245, 246, 247, 248, 362, 363, 364, 365, 666, 667, 668, 669, 670, 671, 672, 684, 688, 689] (by decide +kernel) (by decide +kernel)) (goodIn_sub (fun _ h => List.mem_append_left _ (List.mem_append_right _ h)) (by decide +kernel))) (goodIn_sub (fun _ h => List.mem_append_right _ h) (by decide +kernel))
set_option maxRecDepth 20000 in
theorem gL_law_L_value : GoodIn wsL_law (va_wsS RL 132 yL_value wsL_value) := goodIn_app (goodIn_of _ (by decide +kernel)) ggL_law_L_value
set_option maxRecDepth 20000 in
theorem ggL_law_X4_value : GoodIn wsL_law wsX4_value := goodIn_r _ [442, 123, 124, 5, 125, 126, 127, 128, 129, 130, 131, 132, 133, 134, 135, 136, 394, 395, 396, 397, 398, 399, 400, 401, 402, 403, 140, 141, 142, 143, 52, 148, 149, 150, 151, 152, 153, 154, 255, 256, 257, 258, 168, 169, 170, 171, 673, 674, 675, 676, 677, 678, 679, 680, 681, 682, 683] (by decide +kernel) (by decide +kernel)
set_option maxRecDepth 20000 in
theorem gL_law_X4_value : GoodIn wsL_law (wsV RL 134 RX4 yX4_value wsX4_value) := goodIn_app (goodIn_of _ (by decide +kernel)) ggL_law_X4_value
set_option maxRecDepth 20000 in
theorem ggL_law_L_sum : GoodIn wsL_law wsL_sum := goodIn_ca (goodIn_ca (goodIn_r _ [445, 63, 64, 446, 447, 448, 2, 449, 72, 73, 74, 75, 76, 77, 17, 450, 451, 452, 78, 79, 80, 81, 82, 453, 454, 455, 456, 29, 346, 26, 347, 348, 39, 86, 87, 88, 89, 90, 91, 92, 93, 40, 349, 350, 351, 352, 353, 354, 322, 355, 356, 357, 358, 359, 360, 361, 243, 244, 245, 246, 247, 248, 362, 363, 364, 365, 666, 667, 668, 669, 670, 671, 672, 684, 688, 689] (by decide +kernel) (by decide +kernel)) (goodIn_sub (fun _ h => List.mem_append_left _ (List.mem_append_right _ h)) (by decide +kernel))) (goodIn_sub (fun _ h => List.mem_append_right _ h) (by decide +kernel))
set_option maxRecDepth 20000 in
theorem gL_law_L_sum : GoodIn wsL_law (va_wsS RL 135 yL_sum wsL_sum) := goodIn_app (goodIn_of _ (by decide +kernel)) ggL_law_L_sum
set_option maxRecDepth 20000 in
theorem ggL_law_X4_sum : GoodIn wsL_law wsX4_sum := goodIn_r _ [460, 133, 123, 124, 5, 125, 126, 127, 128, 129, 130, 131, 132, 461, 462, 463, 134, 135, 136, 464, 465, 466, 467, 394, 395, 396, 397, 398, 399, 400, 401, 402, 403, 140, 141, 142, 143, 52, 148, 149, 150, 151, 152, 153, 154, 255, 256, 257, 258, 673, 674, 675, 676, 677, 678, 679, 680, 681, 682, 683] (by decide +kernel) (by decide +kernel)
set_option maxRecDepth 20000 in
theorem gL_law_X4_sum : GoodIn wsL_law (wsV RL 137 RX4 yX4_sum wsX4_sum) := goodIn_app (goodIn_of _ (by decide +kernel)) ggL_law_X4_sum
set_option maxRecDepth 20000 in
theorem ggL_law_L_extreme : GoodIn wsL_law wsL_extreme := goodIn_ca (goodIn_ca (goodIn_r _ [470, 63, 64, 471, 472, 473, 2, 474, 29, 72, 73, 74, 75, 76, 77, 17, 450, 451, 452, 78, 79, 80, 81, 82, 346, 26, 347, 348, 39, 86, 87, 88, 89, 90, 91, 92, 93, 40, 349, 350, 351, 352, 353, 354, 322, 355, 356, 357, 358, 359, 360, 361, 243, 244, 245, 246, 247, 248, 362, 363, 364, 365, 475, 476, 477, 478, 479, 480, 481, 482, 483, 484, 485, 486, 381, 321, 323, 373, 666, 667, 668, 669, 670, 671, 672, 684, 688, 689] (by decide +kernel) (by decide +kernel)) (goodIn_sub (fun _ h => List.mem_append_left _ (List.mem_append_right _ h)) (by decide +kernel))) (goodIn_sub (fun _ h => List.mem_append_right _ h) (by decide +kernel))
set_option maxRecDepth 20000 in
theorem gL_law_L_extreme : GoodIn wsL_law (va_wsS RL 138 yL_extreme wsL_extreme) := goodIn_app (goodIn_of _ (by decide +kernel)) ggL_law_L_extreme
set_option maxRecDepth 20000 in
theorem ggL_law_X4_extreme : GoodIn wsL_law wsX4_extreme := goodIn_r _ [490, 123, 124, 5, 125, 126, 127, 128, 129, 130, 131, 132, 133, 461, 462, 463, 134, 135, 136, 491, 492, 493, 494, 57, 390, 391, 392, 393, 394, 395, 396, 397, 398, 399, 400, 401, 402, 403, 140, 141, 142, 143, 52, 148, 149, 150, 151, 152, 153, 154, 255, 256, 257, 258, 408, 409, 410, 168, 169, 170, 171, 673, 674, 675, 676, 677, 678, 679, 680, 681, 682, 683] (by decide +kernel) (by decide +kernel)
set_option maxRecDepth 20000 in
theorem gL_law_X4_extreme : GoodIn wsL_law (wsV RL 140 RX4 yX4_extreme wsX4_extreme) := goodIn_app (goodIn_of _ (by decide +kernel)) ggL_law_X4_extreme
set_option maxRecDepth 20000 in
theorem ggL_law_L_crossings : GoodIn wsL_law wsL_crossings := goodIn_ca (goodIn_ca (goodIn_r _ [497, 63, 64, 498, 499, 500, 2, 501, 241, 242, 29, 72, 73, 74, 75, 76, 77, 17, 78, 79, 80, 81, 82, 346, 26, 347, 348, 39, 86, 87, 88, 89, 90, 91, 92, 93, 40, 349, 350, 351, 352, 353, 354, 322, 355, 356, 357, 358, 359, 360, 361, 243, 244, 245, 246, 247, 248, 362, 363, 364, 365, 666, 667, 668, 669, 670, 671, 672, 684, 688, 689] (by decide +kernel) (by decide +kernel)) (goodIn_sub (fun _ h => List.mem_append_left _ (List.mem_append_right _ h)) (by decide +kernel))) (goodIn_sub (fun _ h => List.mem_append_right _ h) (by decide +kernel))
set_option maxRecDepth 20000 in
theorem gL_law_L_crossings : GoodIn wsL_law (va_wsS RL 141 yL_crossings wsL_crossings) := goodIn_app (goodIn_of _ (by decide +kernel)) ggL_law_L_crossings
set_option maxRecDepth 20000 in
theorem ggL_law_X4_crossings : GoodIn wsL_law wsX4_crossings := goodIn_r _ [505, 253, 254, 123, 124, 5, 125, 126, 127, 128, 129, 130, 131, 132, 133, 394, 395, 396, 397, 398, 399, 400, 401, 402, 403, 140, 141, 142, 143, 52, 148, 149, 150, 151, 152, 153, 154, 255, 256, 257, 258, 168, 169, 170, 171, 673, 674, 675, 676, 677, 678, 679, 680, 681, 682, 683] (by decide +kernel) (by decide +kernel)
set_option maxRecDepth 20000 in
theorem gL_law_X4_crossings : GoodIn wsL_law (wsV RL 143 RX4 yX4_crossings wsX4_crossings) := goodIn_app (goodIn_of _ (by decide +kernel)) ggL_law_X4_crossings
set_option maxRecDepth 20000 in
theorem ggL_law_L_difference : GoodIn wsL_law wsL_difference := goodIn_ca (goodIn_r _ [508, 63, 509, 510, 511, 2, 512, 29, 30, 72, 73, 74, 75, 76, 77, 17, 346, 26, 347, 348, 39, 86, 87, 88, 89, 90, 91, 92, 93, 40, 349, 350, 351, 352, 353, 354, 322, 355, 356, 357, 358, 359, 360, 361, 243, 244, 245, 246, 247, 248, 362, 363, 364, 365, 377, 378, 379, 380, 381, 321, 323, 373, 666, 667, 668, 669, 670, 671, 672, 684, 688, 689] (by decide +kernel) (by decide +kernel)) (goodIn_sub (fun _ h => List.mem_append_left _ (List.mem_append_right _ h)) (by decide +kernel))
set_option maxRecDepth 20000 in
theorem gL_law_L_difference : GoodIn wsL_law (va_wsS RL 144 yL_difference wsL_difference) := goodIn_app (goodIn_of _ (by decide +kernel)) ggL_law_L_difference
set_option maxRecDepth 20000 in
theorem ggL_law_X4_difference : GoodIn wsL_law wsX4_difference := goodIn_r _ [516, 123, 124, 5, 125, 126, 127, 128, 129, 130, 131, 132, 133, 394, 395, 396, 397, 398, 399, 400, 401, 402, 403, 140, 141, 142, 143, 52, 148, 149, 150, 151, 152, 153, 154, 255, 256, 257, 258, 408, 409, 410, 168, 169, 170, 171, 673, 674, 675, 676, 677, 678, 679, 680, 681, 682, 683] (by decide +kernel) (by decide +kernel)
set_option maxRecDepth 20000 in
theorem gL_law_X4_difference : GoodIn wsL_law (wsV RL 146 RX4 yX4_difference wsX4_difference) := goodIn_app (goodIn_of _ (by decide +kernel)) ggL_law_X4_difference
set_option maxRecDepth 20000 in
theorem ggL_law_L_mean : GoodIn wsL_law wsL_mean := goodIn_ca (goodIn_r _ [519, 63, 520, 521, 522, 2, 523, 524, 72, 73, 74, 75, 76, 77, 17, 453, 454, 455, 456, 29, 346, 26, 347, 348, 39, 86, 87, 88, 89, 90, 91, 92, 93, 40, 349, 350, 351, 352, 353, 354, 322, 355, 356, 357, 358, 359, 360, 361, 243, 244, 245, 246, 247, 248, 362, 363, 364, 365, 666, 667, 668, 669, 670, 671, 672, 684, 688, 689] (by decide +kernel) (by decide +kernel)) (goodIn_sub (fun _ h => List.mem_append_left _ (List.mem_append_right _ h)) (by decide +kernel))
set_option maxRecDepth 20000 in
theorem gL_law_L_mean : GoodIn wsL_law (va_wsS RL 147 yL_mean wsL_mean) := goodIn_app (goodIn_of _ (by decide +kernel)) ggL_law_L_mean
set_option maxRecDepth 20000 in
theorem ggL_law_X4_mean : GoodIn wsL_law wsX4_mean := goodIn_r _ [528, 133, 529, 123, 124, 5, 125, 126, 127, 128, 129, 130, 131, 132, 464, 465, 466, 467, 394, 395, 396, 397, 398, 399, 400, 401, 402, 403, 140, 141, 142, 143, 52, 148, 149, 150, 151, 152, 153, 154, 255, 256, 257, 258, 673, 674, 675, 676, 677, 678, 679, 680, 681, 682, 683] (by decide +kernel) (by decide +kernel)
set_option maxRecDepth 20000 in
theorem gL_law_X4_mean : GoodIn wsL_law (wsV RL 150 RX4 yX4_mean wsX4_mean) := goodIn_app (goodIn_of _ (by decide +kernel)) ggL_law_X4_mean
set_option maxRecDepth 20000 in
theorem ggL_law_L_error : GoodIn wsL_law wsL_error := goodIn_ca (goodIn_r _ [532, 63, 533, 534, 535, 2, 536, 29, 72, 73, 74, 75, 76, 77, 17, 183, 184, 185, 366, 26, 367, 368, 39, 286, 189, 190, 191, 90, 91, 92, 93, 40, 346, 347, 348, 86, 87, 88, 89, 349, 350, 351, 352, 353, 354, 322, 355, 356, 357, 358, 359, 360, 361, 243, 244, 245, 246, 247, 248, 362, 363, 364, 365, 369, 370, 371, 372, 373, 374, 375, 376, 27, 30, 105, 106, 107, 108, 109, 110, 111, 192, 193, 194, 377, 378, 379, 380, 381, 321, 323, 666, 667, 668, 669, 670, 671, 672, 684, 688, 689] (by decide +kernel) (by decide +kernel)) (goodIn_sub (fun _ h => List.mem_append_left _ (List.mem_append_right _ h)) (by decide +kernel))
set_option maxRecDepth 20000 in
theorem gL_law_L_error : GoodIn wsL_law (va_wsS RL 151 yL_error wsL_error) := goodIn_app (goodIn_of _ (by decide +kernel)) ggL_law_L_error
set_option maxRecDepth 20000 in
theorem ggL_law_X4_error : GoodIn wsL_law wsX4_error := goodIn_r _ [540, 199, 200, 201, 5, 202, 123, 124, 125, 126, 127, 128, 140, 141, 142, 143, 52, 129, 130, 131, 132, 133, 390, 391, 392, 393, 57, 394, 395, 396, 397, 398, 399, 400, 401, 402, 403, 148, 149, 150, 151, 152, 153, 154, 255, 256, 257, 258, 404, 405, 406, 407, 55, 203, 204, 205, 206, 408, 409, 410, 168, 169, 170, 171, 673, 674, 675, 676, 677, 678, 679, 680, 681, 682, 683] (by decide +kernel) (by decide +kernel)
set_option maxRecDepth 20000 in
theorem gL_law_X4_error : GoodIn wsL_law (wsV RL 153 RX4 yX4_error wsX4_error) := goodIn_app (goodIn_of _ (by decide +kernel)) ggL_law_X4_error
set_option maxRecDepth 20000 in
theorem ggL_law_L_greatestStretch : GoodIn wsL_law wsL_greatestStretch := goodIn_ca (goodIn_ca (goodIn_r _ [543, 63, 64, 544, 545, 546, 2, 547, 72, 73, 74, 75, 76, 77, 17, 277, 278, 279, 78, 79, 80, 81, 82, 280, 26, 281, 282, 39, 90, 91, 92, 93, 40, 283, 284, 285, 286, 189, 190, 191, 666, 667, 668, 669, 670, 671, 672, 684, 688, 689] (by decide +kernel) (by decide +kernel)) (goodIn_sub (fun _ h => List.mem_append_left _ (List.mem_append_right _ h)) (by decide +kernel))) (goodIn_sub (fun _ h => List.mem_append_right _ h) (by decide +kernel))
set_option maxRecDepth 20000 in
theorem gL_law_L_greatestStretch : GoodIn wsL_law (va_wsS RL 154 yL_greatestStretch wsL_greatestStretch) := goodIn_app (goodIn_of _ (by decide +kernel)) ggL_law_L_greatestStretch
set_option maxRecDepth 20000 in
theorem ggL_law_X4_greatestStretch : GoodIn wsL_law wsX4_greatestStretch := goodIn_r _ [551, 123, 124, 5, 125, 126, 127, 128, 129, 130, 131, 132, 133, 294, 295, 296, 297, 298, 299, 300, 140, 141, 142, 143, 52, 148, 149, 150, 151, 152, 153, 154, 301, 302, 303, 168, 169, 170, 171, 673, 674, 675, 676, 677, 678, 679, 680, 681, 682, 683] (by decide +kernel) (by decide +kernel)
set_option maxRecDepth 20000 in
theorem gL_law_X4_greatestStretch : GoodIn wsL_law (wsV RL 156 RX4 yX4_greatestStretch wsX4_greatestStretch) := goodIn_app (goodIn_of _ (by decide +kernel)) ggL_law_X4_greatestStretch
set_option maxRecDepth 20000 in
theorem ggL_law_L_leastEase : GoodIn wsL_law wsL_leastEase := goodIn_ca (goodIn_r _ [554, 63, 555, 556, 557, 2, 558, 76, 77, 27, 72, 73, 74, 75, 17, 183, 184, 185, 91, 26, 92, 93, 39, 40, 105, 106, 107, 108, 109, 110, 111, 116, 117, 118, 453, 454, 455, 456, 29, 346, 347, 348, 86, 87, 88, 89, 90, 349, 350, 351, 352, 353, 354, 322, 355, 356, 357, 358, 359, 360, 361, 243, 244, 245, 246, 247, 248, 362, 363, 364, 365, 688, 689, 666, 667, 668, 669, 670, 671, 672, 684] (by decide +kernel) (by decide +kernel)) (goodIn_sub (fun _ h => List.mem_append_left _ (List.mem_append_right _ h)) (by decide +kernel))
set_option maxRecDepth 20000 in
theorem gL_law_L_leastEase : GoodIn wsL_law (va_wsS RL 157 yL_leastEase wsL_leastEase) := goodIn_app (goodIn_of _ (by decide +kernel)) ggL_law_L_leastEase
set_option maxRecDepth 20000 in
theorem ggL_law_X4_leastEase : GoodIn wsL_law wsX4_leastEase := goodIn_r _ [562, 52, 199, 200, 201, 5, 202, 123, 124, 125, 126, 127, 128, 140, 141, 142, 143, 129, 130, 131, 132, 133, 152, 153, 154, 148, 149, 150, 151, 464, 465, 466, 467, 394, 395, 396, 397, 398, 399, 400, 401, 402, 403, 255, 256, 257, 258, 168, 169, 170, 171, 673, 674, 675, 676, 677, 678, 679, 680, 681, 682, 683] (by decide +kernel) (by decide +kernel)
set_option maxRecDepth 20000 in
theorem gL_law_X4_leastEase : GoodIn wsL_law (wsV RL 159 RX4 yX4_leastEase wsX4_leastEase) := goodIn_app (goodIn_of _ (by decide +kernel)) ggL_law_X4_leastEase
set_option maxRecDepth 20000 in
theorem ggL_law_L_append : GoodIn wsL_law wsL_append := goodIn_ca (goodIn_ca (goodIn_r _ [565, 64, 65, 566, 567, 568, 2, 569, 70, 71, 23, 78, 79, 80, 81, 82, 570, 22, 571, 572, 46, 45, 666, 667, 668, 669, 670, 671, 672, 685, 686, 687] (by decide +kernel) (by decide +kernel)) (goodIn_sub (fun _ h => List.mem_append_left _ (List.mem_append_left _ (List.mem_append_right _ h))) (by decide +kernel))) (goodIn_sub (fun _ h => List.mem_append_right _ h) (by decide +kernel))
set_option maxRecDepth 20000 in
theorem gL_law_L_append : GoodIn wsL_law (va_wsS RL 160 yL_append wsL_append) := goodIn_app (goodIn_of _ (by decide +kernel)) ggL_law_L_append
set_option maxRecDepth 20000 in
theorem ggL_law_X4_append : GoodIn wsL_law wsX4_append := goodIn_r _ [576, 58, 56, 126, 127, 5, 128, 129, 130, 131, 132, 133, 168, 169, 170, 171, 673, 674, 675, 676, 677, 678, 679, 680, 681, 682, 683] (by decide +kernel) (by decide +kernel)
set_option maxRecDepth 20000 in
theorem gL_law_X4_append : GoodIn wsL_law (wsV RL 163 RX4 yX4_append wsX4_append) := goodIn_app (goodIn_of _ (by decide +kernel)) ggL_law_X4_append
set_option maxRecDepth 20000 in
theorem ggL_law_X3_clearText : GoodIn wsL_law wsX3_clearText := goodIn_r _ [580, 23, 666, 667, 668, 669, 670, 671, 672, 685, 686, 687] (by decide +kernel) (by decide +kernel)
set_option maxRecDepth 20000 in
theorem gL_law_X3_clearText : GoodIn wsL_law (wsV RL 164 RX3 yX3_clearText wsX3_clearText) := goodIn_app (goodIn_of _ (by decide +kernel)) ggL_law_X3_clearText
set_option maxRecDepth 20000 in
theorem ggL_law_X4_clearText : GoodIn wsL_law wsX4_clearText := goodIn_r _ [584, 58, 168, 169, 170, 5, 171, 133, 673, 674, 675, 676, 677, 678, 679, 680, 681, 682, 683] (by decide +kernel) (by decide +kernel)
set_option maxRecDepth 20000 in
theorem gL_law_X4_clearText : GoodIn wsL_law (wsV RL 167 RX4 yX4_clearText wsX4_clearText) := goodIn_app (goodIn_of _ (by decide +kernel)) ggL_law_X4_clearText
set_option maxRecDepth 20000 in
theorem ggL_law_L_parse : GoodIn wsL_law wsL_parse := goodIn_ca (goodIn_ca (goodIn_r _ [587, 63, 65, 588, 589, 590, 2, 591, 23, 27, 72, 73, 74, 75, 76, 77, 17, 592, 22, 593, 594, 47, 46, 595, 596, 597, 598, 599, 600, 601, 602, 45, 603, 604, 605, 606, 607, 26, 608, 609, 39, 90, 91, 92, 93, 40, 610, 611, 612, 613, 614, 615, 616, 617, 112, 113, 114, 108, 109, 110, 111, 86, 87, 88, 89, 115, 116, 117, 118, 311, 312, 313, 70, 71, 314, 315, 316, 286, 189, 190, 191, 94, 95, 96, 97, 19, 18, 98, 99, 100, 101, 102, 16, 103, 104, 35, 105, 106, 107, 666, 667, 668, 669, 670, 671, 672, 688, 689, 684, 685, 686, 687] (by decide +kernel) (by decide +kernel)) (goodIn_sub (fun _ h => List.mem_append_left _ (List.mem_append_right _ h)) (by decide +kernel))) (goodIn_sub (fun _ h => List.mem_append_left _ (List.mem_append_left _ (List.mem_append_right _ h))) (by decide +kernel))
set_option maxRecDepth 20000 in
theorem gL_law_L_parse : GoodIn wsL_law (va_wsS RL 168 yL_parse wsL_parse) := goodIn_app (goodIn_of _ (by decide +kernel)) ggL_law_L_parse
set_option maxRecDepth 20000 in
theorem ggL_law_X4_parse : GoodIn wsL_law wsX4_parse := goodIn_r _ [621, 52, 622, 58, 54, 123, 124, 5, 125, 126, 127, 128, 129, 130, 131, 132, 133, 155, 156, 157, 158, 331, 332, 333, 334, 140, 141, 142, 143, 148, 149, 150, 151, 152, 153, 154, 623, 624, 625, 626, 627, 56, 628, 629, 630, 631, 632, 633, 634, 635, 636, 637, 638, 639, 159, 160, 161, 162, 168, 169, 170, 171, 163, 164, 165, 166, 167, 53, 673, 674, 675, 676, 677, 678, 679, 680, 681, 682, 683] (by decide +kernel) (by decide +kernel)
set_option maxRecDepth 20000 in
theorem gL_law_X4_parse : GoodIn wsL_law (wsV RL 170 RX4 yX4_parse wsX4_parse) := goodIn_app (goodIn_of _ (by decide +kernel)) ggL_law_X4_parse
set_option maxRecDepth 20000 in
theorem ggL_law_L_undo : GoodIn wsL_law wsL_undo := goodIn_ca (goodIn_r _ [642, 65, 643, 644, 645, 2, 646, 70, 71, 19, 17, 18, 102, 16, 103, 104, 35, 105, 26, 106, 107, 39, 40, 108, 109, 110, 111, 666, 667, 668, 669, 670, 671, 672, 684, 688, 689] (by decide +kernel) (by decide +kernel)) (goodIn_sub (fun _ h => List.mem_append_left _ (List.mem_append_left _ (List.mem_append_right _ h))) (by decide +kernel))
set_option maxRecDepth 20000 in
theorem gL_law_L_undo : GoodIn wsL_law (va_wsS RL 171 yL_undo wsL_undo) := goodIn_app (goodIn_of _ (by decide +kernel)) ggL_law_L_undo
set_option maxRecDepth 20000 in
theorem ggL_law_X4_undo : GoodIn wsL_law wsX4_undo := goodIn_r _ [650, 167, 52, 53, 129, 130, 131, 5, 132, 133, 168, 169, 170, 171, 673, 674, 675, 676, 677, 678, 679, 680, 681, 682, 683] (by decide +kernel) (by decide +kernel)
set_option maxRecDepth 20000 in
theorem gL_law_X4_undo : GoodIn wsL_law (wsV RL 174 RX4 yX4_undo wsX4_undo) := goodIn_app (goodIn_of _ (by decide +kernel)) ggL_law_X4_undo
set_option maxRecDepth 20000 in
theorem ggL_law_X3_digest : GoodIn wsL_law wsX3_digest := goodIn_r _ [654, 655, 23, 17, 656, 19, 657, 658, 2, 659, 418, 419, 420, 243, 26, 244, 245, 39, 90, 91, 92, 93, 40, 246, 247, 248, 436, 437, 438, 86, 87, 88, 89, 349, 350, 351, 352, 353, 354, 322, 355, 356, 357, 358, 359, 360, 361, 362, 363, 364, 365, 666, 667, 668, 669, 670, 671, 672, 685, 686, 687, 684, 688, 689] (by decide +kernel) (by decide +kernel)
set_option maxRecDepth 20000 in
theorem gL_law_X3_digest : GoodIn wsL_law (wsV RL 175 RX3 yX3_digest wsX3_digest) := goodIn_app (goodIn_of _ (by decide +kernel)) ggL_law_X3_digest
set_option maxRecDepth 20000 in
theorem ggL_law_X4_digest : GoodIn wsL_law wsX4_digest := goodIn_r _ [663, 133, 664, 58, 665, 167, 140, 141, 142, 5, 143, 52, 425, 426, 427, 428, 148, 149, 150, 151, 152, 153, 154, 255, 256, 257, 258, 394, 395, 396, 397, 398, 399, 400, 401, 402, 403, 673, 674, 675, 676, 677, 678, 679, 680, 681, 682, 683] (by decide +kernel) (by decide +kernel)
set_option maxRecDepth 20000 in
theorem gL_law_X4_digest : GoodIn wsL_law (wsV RL 179 RX4 yX4_digest wsX4_digest) := goodIn_app (goodIn_of _ (by decide +kernel)) ggL_law_X4_digest
