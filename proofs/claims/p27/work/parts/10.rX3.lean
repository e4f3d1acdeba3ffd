theorem dX3_init_0 : decode cX3_init 0 = .ok (.aload_n 0, 1) := by decide +kernel
theorem dX3_init_1 : decode cX3_init 1 = .ok (.invokespecial 3, 3) := by decide +kernel
theorem dX3_init_4 : decode cX3_init 4 = .ok (.aload_n 0, 1) := by decide +kernel
theorem dX3_init_5 : decode cX3_init 5 = .ok (.new 9, 3) := by decide +kernel
theorem dX3_init_8 : decode cX3_init 8 = .ok (.dup, 1) := by decide +kernel
theorem dX3_init_9 : decode cX3_init 9 = .ok (.invokespecial 11, 3) := by decide +kernel
theorem dX3_init_12 : decode cX3_init 12 = .ok (.putfield 12, 3) := by decide +kernel
theorem dX3_init_15 : decode cX3_init 15 = .ok (.aload_n 0, 1) := by decide +kernel
theorem dX3_init_16 : decode cX3_init 16 = .ok (.iconst 4, 1) := by decide +kernel
theorem dX3_init_17 : decode cX3_init 17 = .ok (.anewarray 9, 3) := by decide +kernel
theorem dX3_init_20 : decode cX3_init 20 = .ok (.putfield 16, 3) := by decide +kernel
theorem dX3_init_23 : decode cX3_init 23 = .ok (.iconst 0, 1) := by decide +kernel
theorem dX3_init_24 : decode cX3_init 24 = .ok (.istore_n 1, 1) := by decide +kernel
theorem dX3_init_25 : decode cX3_init 25 = .ok (.iload_n 1, 1) := by decide +kernel
theorem dX3_init_26 : decode cX3_init 26 = .ok (.iconst 4, 1) := by decide +kernel
theorem dX3_init_27 : decode cX3_init 27 = .ok (.if_icmp .ge 22, 3) := by decide +kernel
theorem dX3_init_30 : decode cX3_init 30 = .ok (.aload_n 0, 1) := by decide +kernel
theorem dX3_init_31 : decode cX3_init 31 = .ok (.getfield 16, 3) := by decide +kernel
theorem dX3_init_34 : decode cX3_init 34 = .ok (.iload_n 1, 1) := by decide +kernel
theorem dX3_init_35 : decode cX3_init 35 = .ok (.new 9, 3) := by decide +kernel
theorem dX3_init_38 : decode cX3_init 38 = .ok (.dup, 1) := by decide +kernel
theorem dX3_init_39 : decode cX3_init 39 = .ok (.invokespecial 11, 3) := by decide +kernel
theorem dX3_init_42 : decode cX3_init 42 = .ok (.aastore, 1) := by decide +kernel
theorem dX3_init_43 : decode cX3_init 43 = .ok (.iinc 1 1, 3) := by decide +kernel
theorem dX3_init_46 : decode cX3_init 46 = .ok (.goto (-21), 3) := by decide +kernel
theorem dX3_init_49 : decode cX3_init 49 = .ok (.aload_n 0, 1) := by decide +kernel
theorem dX3_init_50 : decode cX3_init 50 = .ok (.iconst 0, 1) := by decide +kernel
theorem dX3_init_51 : decode cX3_init 51 = .ok (.putfield 20, 3) := by decide +kernel
theorem dX3_init_54 : decode cX3_init 54 = .ok (.aload_n 0, 1) := by decide +kernel
theorem dX3_init_55 : decode cX3_init 55 = .ok (.new 24, 3) := by decide +kernel
theorem dX3_init_58 : decode cX3_init 58 = .ok (.dup, 1) := by decide +kernel
theorem dX3_init_59 : decode cX3_init 59 = .ok (.invokespecial 26, 3) := by decide +kernel
theorem dX3_init_62 : decode cX3_init 62 = .ok (.putfield 27, 3) := by decide +kernel
theorem dX3_init_65 : decode cX3_init 65 = .ok (.aload_n 0, 1) := by decide +kernel
theorem dX3_init_66 : decode cX3_init 66 = .ok (.new 31, 3) := by decide +kernel
theorem dX3_init_69 : decode cX3_init 69 = .ok (.dup, 1) := by decide +kernel
theorem dX3_init_70 : decode cX3_init 70 = .ok (.invokespecial 33, 3) := by decide +kernel
theorem dX3_init_73 : decode cX3_init 73 = .ok (.putfield 34, 3) := by decide +kernel
theorem dX3_init_76 : decode cX3_init 76 = .ok (.aload_n 0, 1) := by decide +kernel
theorem dX3_init_77 : decode cX3_init 77 = .ok (.sipush 1000, 3) := by decide +kernel
theorem dX3_init_80 : decode cX3_init 80 = .ok (.newarray .int, 2) := by decide +kernel
theorem dX3_init_82 : decode cX3_init 82 = .ok (.putfield 38, 3) := by decide +kernel
theorem dX3_init_85 : decode cX3_init 85 = .ok (.aload_n 0, 1) := by decide +kernel
theorem dX3_init_86 : decode cX3_init 86 = .ok (.sipush 1000, 3) := by decide +kernel
theorem dX3_init_89 : decode cX3_init 89 = .ok (.newarray .int, 2) := by decide +kernel
theorem dX3_init_91 : decode cX3_init 91 = .ok (.putfield 42, 3) := by decide +kernel
theorem dX3_init_94 : decode cX3_init 94 = .ok (.return_, 1) := by decide +kernel
set_option maxRecDepth 20000 in
theorem ggX3_addKey_X3_curveNumbered : GoodIn wsX3_addKey wsX3_curveNumbered := goodIn_ca (goodIn_r _ [7, 8, 9, 10, 61, 62, 63, 64, 65, 66, 67, 68] (by decide +kernel) (by decide +kernel)) (goodIn_sub (fun _ h => List.mem_cons_of_mem _ (List.mem_append_left _ (List.mem_append_right _ h))) (by decide +kernel))
set_option maxRecDepth 20000 in
theorem gX3_addKey_X3_curveNumbered : GoodIn wsX3_addKey (wsV RX3 45 RX3 yX3_curveNumbered wsX3_curveNumbered) := goodIn_app (goodIn_of _ (by decide +kernel)) ggX3_addKey_X3_curveNumbered
set_option maxRecDepth 20000 in
theorem ggX3_addKey_X3_requireRange : GoodIn wsX3_addKey wsX3_requireRange := goodIn_ca (goodIn_r _ [13, 14, 15] (by decide +kernel) (by decide +kernel)) (goodIn_sub (fun _ h => List.mem_cons_of_mem _ (List.mem_append_right _ h)) (by decide +kernel))
set_option maxRecDepth 20000 in
theorem gX3_addKey_X3_requireRange : GoodIn wsX3_addKey (va_wsS RX3 49 yX3_requireRange wsX3_requireRange) := goodIn_app (goodIn_of _ (by decide +kernel)) ggX3_addKey_X3_requireRange
set_option maxRecDepth 20000 in
theorem ggX3_addKey_X0_numberAtFrame : GoodIn wsX3_addKey wsX0_numberAtFrame := goodIn_r _ [19, 20, 21, 22, 17, 23, 24, 25, 26, 27, 28, 29, 59, 60] (by decide +kernel) (by decide +kernel)
set_option maxRecDepth 20000 in
theorem gX3_addKey_X0_numberAtFrame_n63 : GoodIn wsX3_addKey (wsX0_numberAtFrame) := ggX3_addKey_X0_numberAtFrame
set_option maxRecDepth 20000 in
theorem ggX3_addKey_X3_saveState : GoodIn wsX3_addKey wsX3_saveState := goodIn_r _ [33, 34, 35, 10, 36, 37, 38, 6, 39, 40, 41, 42, 43, 44, 45, 17, 46, 47, 24, 29, 48, 49, 50, 51, 61, 62, 63, 64, 65, 66, 67, 68, 59, 60] (by decide +kernel) (by decide +kernel)
set_option maxRecDepth 20000 in
theorem gX3_addKey_X3_saveState : GoodIn wsX3_addKey (wsV RX3 69 RX3 yX3_saveState wsX3_saveState) := goodIn_app (goodIn_of _ (by decide +kernel)) ggX3_addKey_X3_saveState
set_option maxRecDepth 20000 in
theorem ggX3_addKey_X0_insert : GoodIn wsX3_addKey wsX0_insert := goodIn_r _ [54, 24, 29, 48, 49, 50, 51, 20, 21, 22, 17, 23, 25, 26, 27, 28, 55, 56, 57, 58, 59, 60] (by decide +kernel) (by decide +kernel)
set_option maxRecDepth 20000 in
theorem gX3_addKey_X0_insert_n72 : GoodIn wsX3_addKey (wsX0_insert) := ggX3_addKey_X0_insert
theorem dX3_addKey_0 : decode cX3_addKey 0 = .ok (.aload_n 0, 1) := by decide +kernel
theorem dX3_addKey_1 : decode cX3_addKey 1 = .ok (.iload_n 1, 1) := by decide +kernel
theorem dX3_addKey_2 : decode cX3_addKey 2 = .ok (.invokevirtual 45, 3) := by decide +kernel
theorem dX3_addKey_5 : decode cX3_addKey 5 = .ok (.astore 5, 2) := by decide +kernel
theorem dX3_addKey_7 : decode cX3_addKey 7 = .ok (.iload_n 2, 1) := by decide +kernel
theorem dX3_addKey_8 : decode cX3_addKey 8 = .ok (.iconst 0, 1) := by decide +kernel
theorem dX3_addKey_9 : decode cX3_addKey 9 = .ok (.sipush 999, 3) := by decide +kernel
theorem dX3_addKey_12 : decode cX3_addKey 12 = .ok (.invokestatic 49, 3) := by decide +kernel
theorem dX3_addKey_15 : decode cX3_addKey 15 = .ok (.iload_n 3, 1) := by decide +kernel
theorem dX3_addKey_16 : decode cX3_addKey 16 = .ok (.sipush (-9999), 3) := by decide +kernel
theorem dX3_addKey_19 : decode cX3_addKey 19 = .ok (.sipush 9999, 3) := by decide +kernel
theorem dX3_addKey_22 : decode cX3_addKey 22 = .ok (.invokestatic 49, 3) := by decide +kernel
theorem dX3_addKey_25 : decode cX3_addKey 25 = .ok (.iload 4, 2) := by decide +kernel
theorem dX3_addKey_27 : decode cX3_addKey 27 = .ok (.iconst 0, 1) := by decide +kernel
theorem dX3_addKey_28 : decode cX3_addKey 28 = .ok (.iconst 5, 1) := by decide +kernel
theorem dX3_addKey_29 : decode cX3_addKey 29 = .ok (.invokestatic 49, 3) := by decide +kernel
theorem dX3_addKey_32 : decode cX3_addKey 32 = .ok (.aload 5, 2) := by decide +kernel
theorem dX3_addKey_34 : decode cX3_addKey 34 = .ok (.getfield 53, 3) := by decide +kernel
theorem dX3_addKey_37 : decode cX3_addKey 37 = .ok (.bipush 16, 2) := by decide +kernel
theorem dX3_addKey_39 : decode cX3_addKey 39 = .ok (.if_icmp .lt 13, 3) := by decide +kernel
theorem dX3_addKey_42 : decode cX3_addKey 42 = .ok (.new 56, 3) := by decide +kernel
theorem dX3_addKey_45 : decode cX3_addKey 45 = .ok (.dup, 1) := by decide +kernel
theorem dX3_addKey_46 : decode cX3_addKey 46 = .ok (.ldc 58, 2) := by decide +kernel
theorem dX3_addKey_48 : decode cX3_addKey 48 = .ok (.invokespecial 60, 3) := by decide +kernel
theorem dX3_addKey_51 : decode cX3_addKey 51 = .ok (.athrow, 1) := by decide +kernel
theorem dX3_addKey_52 : decode cX3_addKey 52 = .ok (.aload 5, 2) := by decide +kernel
theorem dX3_addKey_54 : decode cX3_addKey 54 = .ok (.iload_n 2, 1) := by decide +kernel
theorem dX3_addKey_55 : decode cX3_addKey 55 = .ok (.invokevirtual 63, 3) := by decide +kernel
theorem dX3_addKey_58 : decode cX3_addKey 58 = .ok (.iconst (-1), 1) := by decide +kernel
theorem dX3_addKey_59 : decode cX3_addKey 59 = .ok (.if_icmp .eq 13, 3) := by decide +kernel
theorem dX3_addKey_62 : decode cX3_addKey 62 = .ok (.new 56, 3) := by decide +kernel
theorem dX3_addKey_65 : decode cX3_addKey 65 = .ok (.dup, 1) := by decide +kernel
theorem dX3_addKey_66 : decode cX3_addKey 66 = .ok (.ldc 67, 2) := by decide +kernel
theorem dX3_addKey_68 : decode cX3_addKey 68 = .ok (.invokespecial 60, 3) := by decide +kernel
theorem dX3_addKey_71 : decode cX3_addKey 71 = .ok (.athrow, 1) := by decide +kernel
theorem dX3_addKey_72 : decode cX3_addKey 72 = .ok (.aload_n 0, 1) := by decide +kernel
theorem dX3_addKey_73 : decode cX3_addKey 73 = .ok (.invokevirtual 69, 3) := by decide +kernel
theorem dX3_addKey_76 : decode cX3_addKey 76 = .ok (.aload 5, 2) := by decide +kernel
theorem dX3_addKey_78 : decode cX3_addKey 78 = .ok (.iload_n 2, 1) := by decide +kernel
theorem dX3_addKey_79 : decode cX3_addKey 79 = .ok (.iload_n 3, 1) := by decide +kernel
theorem dX3_addKey_80 : decode cX3_addKey 80 = .ok (.iload 4, 2) := by decide +kernel
theorem dX3_addKey_82 : decode cX3_addKey 82 = .ok (.iconst 0, 1) := by decide +kernel
theorem dX3_addKey_83 : decode cX3_addKey 83 = .ok (.iconst 0, 1) := by decide +kernel
theorem dX3_addKey_84 : decode cX3_addKey 84 = .ok (.iconst 0, 1) := by decide +kernel
theorem dX3_addKey_85 : decode cX3_addKey 85 = .ok (.invokevirtual 72, 3) := by decide +kernel
theorem dX3_addKey_88 : decode cX3_addKey 88 = .ok (.ireturn, 1) := by decide +kernel
set_option maxRecDepth 20000 in
theorem ggX3_removeKey_X3_curveNumbered : GoodIn wsX3_removeKey wsX3_curveNumbered := goodIn_ca (goodIn_r _ [5, 6, 7, 8, 54, 55, 56, 57, 58, 59, 60, 61] (by decide +kernel) (by decide +kernel)) (goodIn_sub (fun _ h => List.mem_cons_of_mem _ (List.mem_append_left _ (List.mem_append_right _ h))) (by decide +kernel))
set_option maxRecDepth 20000 in
theorem gX3_removeKey_X3_curveNumbered : GoodIn wsX3_removeKey (wsV RX3 45 RX3 yX3_curveNumbered wsX3_curveNumbered) := goodIn_app (goodIn_of _ (by decide +kernel)) ggX3_removeKey_X3_curveNumbered
set_option maxRecDepth 20000 in
theorem ggX3_removeKey_X3_requireKey : GoodIn wsX3_removeKey wsX3_requireKey := goodIn_ca (goodIn_r _ [11, 6, 7, 52, 53] (by decide +kernel) (by decide +kernel)) (goodIn_sub (fun _ h => List.mem_cons_of_mem _ (List.mem_append_left _ (List.mem_append_right _ h))) (by decide +kernel))
set_option maxRecDepth 20000 in
theorem gX3_removeKey_X3_requireKey : GoodIn wsX3_removeKey (va_wsS RX3 76 yX3_requireKey wsX3_requireKey) := goodIn_app (goodIn_of _ (by decide +kernel)) ggX3_removeKey_X3_requireKey
set_option maxRecDepth 20000 in
theorem ggX3_removeKey_X3_requireUnlocked : GoodIn wsX3_removeKey wsX3_requireUnlocked := goodIn_ca (goodIn_r _ [14, 15, 16, 17, 18, 19, 20, 21, 22, 23, 24, 25, 26, 52, 53] (by decide +kernel) (by decide +kernel)) (goodIn_sub (fun _ h => List.mem_cons_of_mem _ (List.mem_append_right _ h)) (by decide +kernel))
set_option maxRecDepth 20000 in
theorem gX3_removeKey_X3_requireUnlocked : GoodIn wsX3_removeKey (va_wsS RX3 80 yX3_requireUnlocked wsX3_requireUnlocked) := goodIn_app (goodIn_of _ (by decide +kernel)) ggX3_removeKey_X3_requireUnlocked
set_option maxRecDepth 20000 in
theorem ggX3_removeKey_X3_saveState : GoodIn wsX3_removeKey wsX3_saveState := goodIn_r _ [30, 31, 32, 8, 33, 34, 35, 4, 36, 37, 38, 39, 40, 41, 42, 18, 43, 44, 25, 26, 45, 46, 47, 48, 54, 55, 56, 57, 58, 59, 60, 61, 52, 53] (by decide +kernel) (by decide +kernel)
set_option maxRecDepth 20000 in
theorem gX3_removeKey_X3_saveState : GoodIn wsX3_removeKey (wsV RX3 69 RX3 yX3_saveState wsX3_saveState) := goodIn_app (goodIn_of _ (by decide +kernel)) ggX3_removeKey_X3_saveState
set_option maxRecDepth 20000 in
theorem ggX3_removeKey_X0_takeOut : GoodIn wsX3_removeKey wsX0_takeOut := goodIn_r _ [51, 25, 26, 45, 46, 47, 48, 52, 53] (by decide +kernel) (by decide +kernel)
set_option maxRecDepth 20000 in
theorem gX3_removeKey_X0_takeOut_n83 : GoodIn wsX3_removeKey (wsX0_takeOut) := ggX3_removeKey_X0_takeOut
theorem dX3_removeKey_0 : decode cX3_removeKey 0 = .ok (.aload_n 0, 1) := by decide +kernel
theorem dX3_removeKey_1 : decode cX3_removeKey 1 = .ok (.iload_n 1, 1) := by decide +kernel
theorem dX3_removeKey_2 : decode cX3_removeKey 2 = .ok (.invokevirtual 45, 3) := by decide +kernel
theorem dX3_removeKey_5 : decode cX3_removeKey 5 = .ok (.astore_n 3, 1) := by decide +kernel
theorem dX3_removeKey_6 : decode cX3_removeKey 6 = .ok (.aload_n 3, 1) := by decide +kernel
theorem dX3_removeKey_7 : decode cX3_removeKey 7 = .ok (.iload_n 2, 1) := by decide +kernel
theorem dX3_removeKey_8 : decode cX3_removeKey 8 = .ok (.invokestatic 76, 3) := by decide +kernel
theorem dX3_removeKey_11 : decode cX3_removeKey 11 = .ok (.aload_n 3, 1) := by decide +kernel
theorem dX3_removeKey_12 : decode cX3_removeKey 12 = .ok (.iload_n 2, 1) := by decide +kernel
theorem dX3_removeKey_13 : decode cX3_removeKey 13 = .ok (.invokestatic 80, 3) := by decide +kernel
theorem dX3_removeKey_16 : decode cX3_removeKey 16 = .ok (.aload_n 0, 1) := by decide +kernel
theorem dX3_removeKey_17 : decode cX3_removeKey 17 = .ok (.invokevirtual 69, 3) := by decide +kernel
theorem dX3_removeKey_20 : decode cX3_removeKey 20 = .ok (.aload_n 3, 1) := by decide +kernel
theorem dX3_removeKey_21 : decode cX3_removeKey 21 = .ok (.iload_n 2, 1) := by decide +kernel
theorem dX3_removeKey_22 : decode cX3_removeKey 22 = .ok (.invokevirtual 83, 3) := by decide +kernel
theorem dX3_removeKey_25 : decode cX3_removeKey 25 = .ok (.aload_n 3, 1) := by decide +kernel
theorem dX3_removeKey_26 : decode cX3_removeKey 26 = .ok (.getfield 53, 3) := by decide +kernel
theorem dX3_removeKey_29 : decode cX3_removeKey 29 = .ok (.ireturn, 1) := by decide +kernel
set_option maxRecDepth 20000 in
theorem ggX3_setKey_X3_curveNumbered : GoodIn wsX3_setKey wsX3_curveNumbered := goodIn_ca (goodIn_r _ [5, 6, 7, 8, 57, 58, 59, 60, 61, 62, 63, 64] (by decide +kernel) (by decide +kernel)) (goodIn_sub (fun _ h => List.mem_cons_of_mem _ (List.mem_append_left _ (List.mem_append_left _ (List.mem_append_right _ h)))) (by decide +kernel))
set_option maxRecDepth 20000 in
theorem gX3_setKey_X3_curveNumbered : GoodIn wsX3_setKey (wsV RX3 45 RX3 yX3_curveNumbered wsX3_curveNumbered) := goodIn_app (goodIn_of _ (by decide +kernel)) ggX3_setKey_X3_curveNumbered
set_option maxRecDepth 20000 in
theorem ggX3_setKey_X3_requireKey : GoodIn wsX3_setKey wsX3_requireKey := goodIn_ca (goodIn_r _ [11, 6, 7, 65, 66] (by decide +kernel) (by decide +kernel)) (goodIn_sub (fun _ h => List.mem_cons_of_mem _ (List.mem_append_left _ (List.mem_append_left _ (List.mem_append_right _ h)))) (by decide +kernel))
set_option maxRecDepth 20000 in
theorem gX3_setKey_X3_requireKey : GoodIn wsX3_setKey (va_wsS RX3 76 yX3_requireKey wsX3_requireKey) := goodIn_app (goodIn_of _ (by decide +kernel)) ggX3_setKey_X3_requireKey
set_option maxRecDepth 20000 in
theorem ggX3_setKey_X3_requireRange : GoodIn wsX3_setKey wsX3_requireRange := goodIn_ca (goodIn_r _ [14, 15, 16] (by decide +kernel) (by decide +kernel)) (goodIn_sub (fun _ h => List.mem_cons_of_mem _ (List.mem_append_left _ (List.mem_append_right _ h))) (by decide +kernel))
set_option maxRecDepth 20000 in
theorem gX3_setKey_X3_requireRange : GoodIn wsX3_setKey (va_wsS RX3 49 yX3_requireRange wsX3_requireRange) := goodIn_app (goodIn_of _ (by decide +kernel)) ggX3_setKey_X3_requireRange
set_option maxRecDepth 20000 in
theorem ggX3_setKey_X3_requireUnlocked : GoodIn wsX3_setKey wsX3_requireUnlocked := goodIn_ca (goodIn_r _ [19, 20, 21, 22, 23, 24, 25, 26, 27, 28, 29, 30, 31, 65, 66] (by decide +kernel) (by decide +kernel)) (goodIn_sub (fun _ h => List.mem_cons_of_mem _ (List.mem_append_right _ h)) (by decide +kernel))
set_option maxRecDepth 20000 in
theorem gX3_setKey_X3_requireUnlocked : GoodIn wsX3_setKey (va_wsS RX3 80 yX3_requireUnlocked wsX3_requireUnlocked) := goodIn_app (goodIn_of _ (by decide +kernel)) ggX3_setKey_X3_requireUnlocked
set_option maxRecDepth 20000 in
theorem ggX3_setKey_X3_saveState : GoodIn wsX3_setKey wsX3_saveState := goodIn_r _ [35, 36, 37, 8, 38, 39, 40, 4, 41, 42, 43, 44, 45, 46, 47, 23, 48, 49, 30, 31, 50, 51, 52, 53, 57, 58, 59, 60, 61, 62, 63, 64, 65, 66] (by decide +kernel) (by decide +kernel)
set_option maxRecDepth 20000 in
theorem gX3_setKey_X3_saveState : GoodIn wsX3_setKey (wsV RX3 69 RX3 yX3_saveState wsX3_saveState) := goodIn_app (goodIn_of _ (by decide +kernel)) ggX3_setKey_X3_saveState
set_option maxRecDepth 20000 in
theorem ggX3_setKey_X0_cell : GoodIn wsX3_setKey wsX0_cell := goodIn_r _ [29, 30, 31, 65, 66] (by decide +kernel) (by decide +kernel)
set_option maxRecDepth 20000 in
theorem gX3_setKey_X0_cell_n87 : GoodIn wsX3_setKey (wsX0_cell) := ggX3_setKey_X0_cell
set_option maxRecDepth 20000 in
theorem ggX3_setKey_X0_put : GoodIn wsX3_setKey wsX0_put := goodIn_r _ [56, 30, 31, 65, 66] (by decide +kernel) (by decide +kernel)
set_option maxRecDepth 20000 in
theorem gX3_setKey_X0_put_n91 : GoodIn wsX3_setKey (wsX0_put) := ggX3_setKey_X0_put
theorem dX3_setKey_0 : decode cX3_setKey 0 = .ok (.aload_n 0, 1) := by decide +kernel
theorem dX3_setKey_1 : decode cX3_setKey 1 = .ok (.iload_n 1, 1) := by decide +kernel
theorem dX3_setKey_2 : decode cX3_setKey 2 = .ok (.invokevirtual 45, 3) := by decide +kernel
theorem dX3_setKey_5 : decode cX3_setKey 5 = .ok (.astore 5, 2) := by decide +kernel
theorem dX3_setKey_7 : decode cX3_setKey 7 = .ok (.aload 5, 2) := by decide +kernel
theorem dX3_setKey_9 : decode cX3_setKey 9 = .ok (.iload_n 2, 1) := by decide +kernel
theorem dX3_setKey_10 : decode cX3_setKey 10 = .ok (.invokestatic 76, 3) := by decide +kernel
theorem dX3_setKey_13 : decode cX3_setKey 13 = .ok (.iload_n 3, 1) := by decide +kernel
theorem dX3_setKey_14 : decode cX3_setKey 14 = .ok (.sipush (-9999), 3) := by decide +kernel
theorem dX3_setKey_17 : decode cX3_setKey 17 = .ok (.sipush 9999, 3) := by decide +kernel
theorem dX3_setKey_20 : decode cX3_setKey 20 = .ok (.invokestatic 49, 3) := by decide +kernel
theorem dX3_setKey_23 : decode cX3_setKey 23 = .ok (.iload 4, 2) := by decide +kernel
theorem dX3_setKey_25 : decode cX3_setKey 25 = .ok (.iconst 0, 1) := by decide +kernel
theorem dX3_setKey_26 : decode cX3_setKey 26 = .ok (.iconst 5, 1) := by decide +kernel
theorem dX3_setKey_27 : decode cX3_setKey 27 = .ok (.invokestatic 49, 3) := by decide +kernel
theorem dX3_setKey_30 : decode cX3_setKey 30 = .ok (.aload 5, 2) := by decide +kernel
theorem dX3_setKey_32 : decode cX3_setKey 32 = .ok (.iload_n 2, 1) := by decide +kernel
theorem dX3_setKey_33 : decode cX3_setKey 33 = .ok (.invokestatic 80, 3) := by decide +kernel
theorem dX3_setKey_36 : decode cX3_setKey 36 = .ok (.aload_n 0, 1) := by decide +kernel
theorem dX3_setKey_37 : decode cX3_setKey 37 = .ok (.invokevirtual 69, 3) := by decide +kernel
theorem dX3_setKey_40 : decode cX3_setKey 40 = .ok (.aload 5, 2) := by decide +kernel
theorem dX3_setKey_42 : decode cX3_setKey 42 = .ok (.iload_n 2, 1) := by decide +kernel
theorem dX3_setKey_43 : decode cX3_setKey 43 = .ok (.iconst 1, 1) := by decide +kernel
theorem dX3_setKey_44 : decode cX3_setKey 44 = .ok (.invokevirtual 87, 3) := by decide +kernel
theorem dX3_setKey_47 : decode cX3_setKey 47 = .ok (.istore 6, 2) := by decide +kernel
theorem dX3_setKey_49 : decode cX3_setKey 49 = .ok (.aload 5, 2) := by decide +kernel
theorem dX3_setKey_51 : decode cX3_setKey 51 = .ok (.iload_n 2, 1) := by decide +kernel
theorem dX3_setKey_52 : decode cX3_setKey 52 = .ok (.iconst 1, 1) := by decide +kernel
theorem dX3_setKey_53 : decode cX3_setKey 53 = .ok (.iload_n 3, 1) := by decide +kernel
theorem dX3_setKey_54 : decode cX3_setKey 54 = .ok (.invokevirtual 91, 3) := by decide +kernel
theorem dX3_setKey_57 : decode cX3_setKey 57 = .ok (.aload 5, 2) := by decide +kernel
theorem dX3_setKey_59 : decode cX3_setKey 59 = .ok (.iload_n 2, 1) := by decide +kernel
theorem dX3_setKey_60 : decode cX3_setKey 60 = .ok (.iconst 2, 1) := by decide +kernel
theorem dX3_setKey_61 : decode cX3_setKey 61 = .ok (.iload 4, 2) := by decide +kernel
theorem dX3_setKey_63 : decode cX3_setKey 63 = .ok (.invokevirtual 91, 3) := by decide +kernel
theorem dX3_setKey_66 : decode cX3_setKey 66 = .ok (.iload 6, 2) := by decide +kernel
theorem dX3_setKey_68 : decode cX3_setKey 68 = .ok (.ireturn, 1) := by decide +kernel
set_option maxRecDepth 20000 in
theorem ggX3_moveKey_X3_curveNumbered : GoodIn wsX3_moveKey wsX3_curveNumbered := goodIn_ca (goodIn_r _ [7, 8, 9, 10, 76, 77, 78, 79, 80, 81, 82, 83] (by decide +kernel) (by decide +kernel)) (goodIn_sub (fun _ h => List.mem_cons_of_mem _ (List.mem_append_left _ (List.mem_append_right _ h))) (by decide +kernel))
set_option maxRecDepth 20000 in
theorem gX3_moveKey_X3_curveNumbered : GoodIn wsX3_moveKey (wsV RX3 45 RX3 yX3_curveNumbered wsX3_curveNumbered) := goodIn_app (goodIn_of _ (by decide +kernel)) ggX3_moveKey_X3_curveNumbered
set_option maxRecDepth 20000 in
theorem ggX3_moveKey_X3_requireKey : GoodIn wsX3_moveKey wsX3_requireKey := goodIn_ca (goodIn_r _ [13, 8, 9, 84, 85] (by decide +kernel) (by decide +kernel)) (goodIn_sub (fun _ h => List.mem_cons_of_mem _ (List.mem_append_left _ (List.mem_append_right _ h))) (by decide +kernel))
set_option maxRecDepth 20000 in
theorem gX3_moveKey_X3_requireKey : GoodIn wsX3_moveKey (va_wsS RX3 76 yX3_requireKey wsX3_requireKey) := goodIn_app (goodIn_of _ (by decide +kernel)) ggX3_moveKey_X3_requireKey
set_option maxRecDepth 20000 in
theorem ggX3_moveKey_X3_requireRange : GoodIn wsX3_moveKey wsX3_requireRange := goodIn_ca (goodIn_r _ [16, 17, 18] (by decide +kernel) (by decide +kernel)) (goodIn_sub (fun _ h => List.mem_cons_of_mem _ (List.mem_append_right _ h)) (by decide +kernel))
set_option maxRecDepth 20000 in
theorem gX3_moveKey_X3_requireRange : GoodIn wsX3_moveKey (va_wsS RX3 49 yX3_requireRange wsX3_requireRange) := goodIn_app (goodIn_of _ (by decide +kernel)) ggX3_moveKey_X3_requireRange
set_option maxRecDepth 20000 in
theorem ggX3_moveKey_X3_requireUnlocked : GoodIn wsX3_moveKey wsX3_requireUnlocked := goodIn_ca (goodIn_r _ [21, 1, 2, 22, 23, 24, 25, 26, 27, 28, 29, 30, 31, 84, 85] (by decide +kernel) (by decide +kernel)) (goodIn_sub (fun _ h => List.mem_cons_of_mem _ (List.mem_append_left _ (List.mem_append_left _ (List.mem_append_right _ h)))) (by decide +kernel))
set_option maxRecDepth 20000 in
theorem gX3_moveKey_X3_requireUnlocked : GoodIn wsX3_moveKey (va_wsS RX3 80 yX3_requireUnlocked wsX3_requireUnlocked) := goodIn_app (goodIn_of _ (by decide +kernel)) ggX3_moveKey_X3_requireUnlocked
set_option maxRecDepth 20000 in
theorem ggX3_moveKey_X0_numberAtFrame : GoodIn wsX3_moveKey wsX0_numberAtFrame := goodIn_r _ [34, 35, 36, 37, 23, 38, 30, 26, 27, 28, 29, 31, 84, 85] (by decide +kernel) (by decide +kernel)
set_option maxRecDepth 20000 in
theorem gX3_moveKey_X0_numberAtFrame_n63 : GoodIn wsX3_moveKey (wsX0_numberAtFrame) := ggX3_moveKey_X0_numberAtFrame
set_option maxRecDepth 20000 in
theorem ggX3_moveKey_X3_saveState : GoodIn wsX3_moveKey wsX3_saveState := goodIn_r _ [42, 43, 44, 10, 45, 46, 47, 6, 48, 49, 50, 51, 52, 53, 54, 23, 55, 56, 30, 31, 57, 58, 59, 60, 76, 77, 78, 79, 80, 81, 82, 83, 84, 85] (by decide +kernel) (by decide +kernel)
set_option maxRecDepth 20000 in
theorem gX3_moveKey_X3_saveState : GoodIn wsX3_moveKey (wsV RX3 69 RX3 yX3_saveState wsX3_saveState) := goodIn_app (goodIn_of _ (by decide +kernel)) ggX3_moveKey_X3_saveState
set_option maxRecDepth 20000 in
theorem ggX3_moveKey_X0_moveTo : GoodIn wsX3_moveKey wsX0_moveTo := goodIn_r _ [63, 26, 27, 28, 23, 29, 30, 31, 64, 65, 66, 67, 57, 58, 59, 60, 68, 69, 70, 71, 35, 36, 37, 38, 72, 73, 74, 75, 84, 85] (by decide +kernel) (by decide +kernel)
set_option maxRecDepth 20000 in
theorem gX3_moveKey_X0_moveTo_n96 : GoodIn wsX3_moveKey (wsX0_moveTo) := ggX3_moveKey_X0_moveTo
theorem dX3_moveKey_0 : decode cX3_moveKey 0 = .ok (.aload_n 0, 1) := by decide +kernel
theorem dX3_moveKey_1 : decode cX3_moveKey 1 = .ok (.iload_n 1, 1) := by decide +kernel
theorem dX3_moveKey_2 : decode cX3_moveKey 2 = .ok (.invokevirtual 45, 3) := by decide +kernel
theorem dX3_moveKey_5 : decode cX3_moveKey 5 = .ok (.astore 4, 2) := by decide +kernel
theorem dX3_moveKey_7 : decode cX3_moveKey 7 = .ok (.aload 4, 2) := by decide +kernel
theorem dX3_moveKey_9 : decode cX3_moveKey 9 = .ok (.iload_n 2, 1) := by decide +kernel
theorem dX3_moveKey_10 : decode cX3_moveKey 10 = .ok (.invokestatic 76, 3) := by decide +kernel
theorem dX3_moveKey_13 : decode cX3_moveKey 13 = .ok (.iload_n 3, 1) := by decide +kernel
theorem dX3_moveKey_14 : decode cX3_moveKey 14 = .ok (.iconst 0, 1) := by decide +kernel
theorem dX3_moveKey_15 : decode cX3_moveKey 15 = .ok (.sipush 999, 3) := by decide +kernel
theorem dX3_moveKey_18 : decode cX3_moveKey 18 = .ok (.invokestatic 49, 3) := by decide +kernel
theorem dX3_moveKey_21 : decode cX3_moveKey 21 = .ok (.aload 4, 2) := by decide +kernel
theorem dX3_moveKey_23 : decode cX3_moveKey 23 = .ok (.iload_n 2, 1) := by decide +kernel
theorem dX3_moveKey_24 : decode cX3_moveKey 24 = .ok (.invokestatic 80, 3) := by decide +kernel
theorem dX3_moveKey_27 : decode cX3_moveKey 27 = .ok (.aload 4, 2) := by decide +kernel
theorem dX3_moveKey_29 : decode cX3_moveKey 29 = .ok (.iload_n 3, 1) := by decide +kernel
theorem dX3_moveKey_30 : decode cX3_moveKey 30 = .ok (.invokevirtual 63, 3) := by decide +kernel
theorem dX3_moveKey_33 : decode cX3_moveKey 33 = .ok (.istore 5, 2) := by decide +kernel
theorem dX3_moveKey_35 : decode cX3_moveKey 35 = .ok (.iload 5, 2) := by decide +kernel
theorem dX3_moveKey_37 : decode cX3_moveKey 37 = .ok (.iconst (-1), 1) := by decide +kernel
theorem dX3_moveKey_38 : decode cX3_moveKey 38 = .ok (.if_icmp .eq 19, 3) := by decide +kernel
theorem dX3_moveKey_41 : decode cX3_moveKey 41 = .ok (.iload 5, 2) := by decide +kernel
theorem dX3_moveKey_43 : decode cX3_moveKey 43 = .ok (.iload_n 2, 1) := by decide +kernel
theorem dX3_moveKey_44 : decode cX3_moveKey 44 = .ok (.if_icmp .eq 13, 3) := by decide +kernel
theorem dX3_moveKey_47 : decode cX3_moveKey 47 = .ok (.new 56, 3) := by decide +kernel
theorem dX3_moveKey_50 : decode cX3_moveKey 50 = .ok (.dup, 1) := by decide +kernel
theorem dX3_moveKey_51 : decode cX3_moveKey 51 = .ok (.ldc 94, 2) := by decide +kernel
theorem dX3_moveKey_53 : decode cX3_moveKey 53 = .ok (.invokespecial 60, 3) := by decide +kernel
theorem dX3_moveKey_56 : decode cX3_moveKey 56 = .ok (.athrow, 1) := by decide +kernel
theorem dX3_moveKey_57 : decode cX3_moveKey 57 = .ok (.aload_n 0, 1) := by decide +kernel
theorem dX3_moveKey_58 : decode cX3_moveKey 58 = .ok (.invokevirtual 69, 3) := by decide +kernel
theorem dX3_moveKey_61 : decode cX3_moveKey 61 = .ok (.aload 4, 2) := by decide +kernel
theorem dX3_moveKey_63 : decode cX3_moveKey 63 = .ok (.iload_n 2, 1) := by decide +kernel
theorem dX3_moveKey_64 : decode cX3_moveKey 64 = .ok (.iload_n 3, 1) := by decide +kernel
theorem dX3_moveKey_65 : decode cX3_moveKey 65 = .ok (.invokevirtual 96, 3) := by decide +kernel
theorem dX3_moveKey_68 : decode cX3_moveKey 68 = .ok (.ireturn, 1) := by decide +kernel
set_option maxRecDepth 20000 in
theorem ggX3_setTangent_X3_curveNumbered : GoodIn wsX3_setTangent wsX3_curveNumbered := goodIn_ca (goodIn_r _ [7, 8, 9, 10, 65, 66, 67, 68, 69, 70, 71, 72] (by decide +kernel) (by decide +kernel)) (goodIn_sub (fun _ h => List.mem_cons_of_mem _ (List.mem_append_left _ (List.mem_append_left _ (List.mem_append_right _ h)))) (by decide +kernel))
set_option maxRecDepth 20000 in
theorem gX3_setTangent_X3_curveNumbered : GoodIn wsX3_setTangent (wsV RX3 45 RX3 yX3_curveNumbered wsX3_curveNumbered) := goodIn_app (goodIn_of _ (by decide +kernel)) ggX3_setTangent_X3_curveNumbered
set_option maxRecDepth 20000 in
theorem ggX3_setTangent_X3_requireKey : GoodIn wsX3_setTangent wsX3_requireKey := goodIn_ca (goodIn_r _ [13, 8, 9, 73, 74] (by decide +kernel) (by decide +kernel)) (goodIn_sub (fun _ h => List.mem_cons_of_mem _ (List.mem_append_left _ (List.mem_append_left _ (List.mem_append_right _ h)))) (by decide +kernel))
set_option maxRecDepth 20000 in
theorem gX3_setTangent_X3_requireKey : GoodIn wsX3_setTangent (va_wsS RX3 76 yX3_requireKey wsX3_requireKey) := goodIn_app (goodIn_of _ (by decide +kernel)) ggX3_setTangent_X3_requireKey
set_option maxRecDepth 20000 in
theorem ggX3_setTangent_X3_requireRange : GoodIn wsX3_setTangent wsX3_requireRange := goodIn_ca (goodIn_r _ [16, 17, 18] (by decide +kernel) (by decide +kernel)) (goodIn_sub (fun _ h => List.mem_cons_of_mem _ (List.mem_append_left _ (List.mem_append_right _ h))) (by decide +kernel))
set_option maxRecDepth 20000 in
theorem gX3_setTangent_X3_requireRange : GoodIn wsX3_setTangent (va_wsS RX3 49 yX3_requireRange wsX3_requireRange) := goodIn_app (goodIn_of _ (by decide +kernel)) ggX3_setTangent_X3_requireRange
set_option maxRecDepth 20000 in
theorem ggX3_setTangent_X3_requireUnlocked : GoodIn wsX3_setTangent wsX3_requireUnlocked := goodIn_ca (goodIn_r _ [21, 22, 23, 24, 25, 26, 27, 28, 29, 30, 31, 32, 33, 73, 74] (by decide +kernel) (by decide +kernel)) (goodIn_sub (fun _ h => List.mem_cons_of_mem _ (List.mem_append_right _ h)) (by decide +kernel))
set_option maxRecDepth 20000 in
theorem gX3_setTangent_X3_requireUnlocked : GoodIn wsX3_setTangent (va_wsS RX3 80 yX3_requireUnlocked wsX3_requireUnlocked) := goodIn_app (goodIn_of _ (by decide +kernel)) ggX3_setTangent_X3_requireUnlocked
set_option maxRecDepth 20000 in
theorem ggX3_setTangent_X3_saveState : GoodIn wsX3_setTangent wsX3_saveState := goodIn_r _ [37, 38, 39, 10, 40, 41, 42, 6, 43, 44, 45, 46, 47, 48, 49, 25, 50, 51, 32, 33, 52, 53, 54, 55, 65, 66, 67, 68, 69, 70, 71, 72, 73, 74] (by decide +kernel) (by decide +kernel)
set_option maxRecDepth 20000 in
theorem gX3_setTangent_X3_saveState : GoodIn wsX3_setTangent (wsV RX3 69 RX3 yX3_saveState wsX3_saveState) := goodIn_app (goodIn_of _ (by decide +kernel)) ggX3_setTangent_X3_saveState
set_option maxRecDepth 20000 in
theorem ggX3_setTangent_X0_tangentOf : GoodIn wsX3_setTangent wsX0_tangentOf := goodIn_r _ [58, 32, 28, 29, 30, 25, 31, 33, 59, 60, 61, 73, 74] (by decide +kernel) (by decide +kernel)
set_option maxRecDepth 20000 in
theorem gX3_setTangent_X0_tangentOf_n101 : GoodIn wsX3_setTangent (wsX0_tangentOf) := ggX3_setTangent_X0_tangentOf
set_option maxRecDepth 20000 in
theorem ggX3_setTangent_X0_put : GoodIn wsX3_setTangent wsX0_put := goodIn_r _ [64, 32, 33, 73, 74] (by decide +kernel) (by decide +kernel)
set_option maxRecDepth 20000 in
theorem gX3_setTangent_X0_put_n91 : GoodIn wsX3_setTangent (wsX0_put) := ggX3_setTangent_X0_put
theorem dX3_setTangent_0 : decode cX3_setTangent 0 = .ok (.aload_n 0, 1) := by decide +kernel
theorem dX3_setTangent_1 : decode cX3_setTangent 1 = .ok (.iload_n 1, 1) := by decide +kernel
theorem dX3_setTangent_2 : decode cX3_setTangent 2 = .ok (.invokevirtual 45, 3) := by decide +kernel
theorem dX3_setTangent_5 : decode cX3_setTangent 5 = .ok (.astore 5, 2) := by decide +kernel
theorem dX3_setTangent_7 : decode cX3_setTangent 7 = .ok (.aload 5, 2) := by decide +kernel
theorem dX3_setTangent_9 : decode cX3_setTangent 9 = .ok (.iload_n 2, 1) := by decide +kernel
theorem dX3_setTangent_10 : decode cX3_setTangent 10 = .ok (.invokestatic 76, 3) := by decide +kernel
theorem dX3_setTangent_13 : decode cX3_setTangent 13 = .ok (.iload_n 3, 1) := by decide +kernel
theorem dX3_setTangent_14 : decode cX3_setTangent 14 = .ok (.iconst 0, 1) := by decide +kernel
theorem dX3_setTangent_15 : decode cX3_setTangent 15 = .ok (.iconst 2, 1) := by decide +kernel
theorem dX3_setTangent_16 : decode cX3_setTangent 16 = .ok (.invokestatic 49, 3) := by decide +kernel
theorem dX3_setTangent_19 : decode cX3_setTangent 19 = .ok (.iload 4, 2) := by decide +kernel
theorem dX3_setTangent_21 : decode cX3_setTangent 21 = .ok (.ldc 99, 2) := by decide +kernel
theorem dX3_setTangent_23 : decode cX3_setTangent 23 = .ok (.ldc 100, 2) := by decide +kernel
theorem dX3_setTangent_25 : decode cX3_setTangent 25 = .ok (.invokestatic 49, 3) := by decide +kernel
theorem dX3_setTangent_28 : decode cX3_setTangent 28 = .ok (.aload 5, 2) := by decide +kernel
theorem dX3_setTangent_30 : decode cX3_setTangent 30 = .ok (.iload_n 2, 1) := by decide +kernel
theorem dX3_setTangent_31 : decode cX3_setTangent 31 = .ok (.invokestatic 80, 3) := by decide +kernel
theorem dX3_setTangent_34 : decode cX3_setTangent 34 = .ok (.aload_n 0, 1) := by decide +kernel
theorem dX3_setTangent_35 : decode cX3_setTangent 35 = .ok (.invokevirtual 69, 3) := by decide +kernel
theorem dX3_setTangent_38 : decode cX3_setTangent 38 = .ok (.aload 5, 2) := by decide +kernel
theorem dX3_setTangent_40 : decode cX3_setTangent 40 = .ok (.iload_n 2, 1) := by decide +kernel
theorem dX3_setTangent_41 : decode cX3_setTangent 41 = .ok (.invokevirtual 101, 3) := by decide +kernel
theorem dX3_setTangent_44 : decode cX3_setTangent 44 = .ok (.istore 6, 2) := by decide +kernel
theorem dX3_setTangent_46 : decode cX3_setTangent 46 = .ok (.aload 5, 2) := by decide +kernel
theorem dX3_setTangent_48 : decode cX3_setTangent 48 = .ok (.iload_n 2, 1) := by decide +kernel
theorem dX3_setTangent_49 : decode cX3_setTangent 49 = .ok (.iconst 3, 1) := by decide +kernel
theorem dX3_setTangent_50 : decode cX3_setTangent 50 = .ok (.iload_n 3, 1) := by decide +kernel
theorem dX3_setTangent_51 : decode cX3_setTangent 51 = .ok (.invokevirtual 91, 3) := by decide +kernel
theorem dX3_setTangent_54 : decode cX3_setTangent 54 = .ok (.aload 5, 2) := by decide +kernel
theorem dX3_setTangent_56 : decode cX3_setTangent 56 = .ok (.iload_n 2, 1) := by decide +kernel
theorem dX3_setTangent_57 : decode cX3_setTangent 57 = .ok (.iconst 4, 1) := by decide +kernel
theorem dX3_setTangent_58 : decode cX3_setTangent 58 = .ok (.iload 4, 2) := by decide +kernel
theorem dX3_setTangent_60 : decode cX3_setTangent 60 = .ok (.invokevirtual 91, 3) := by decide +kernel
theorem dX3_setTangent_63 : decode cX3_setTangent 63 = .ok (.iload 6, 2) := by decide +kernel
theorem dX3_setTangent_65 : decode cX3_setTangent 65 = .ok (.ireturn, 1) := by decide +kernel
set_option maxRecDepth 20000 in
theorem ggX3_lock_X3_curveNumbered : GoodIn wsX3_lock wsX3_curveNumbered := goodIn_ca (goodIn_r _ [5, 6, 7, 8, 43, 44, 45, 46, 47, 48, 49, 50] (by decide +kernel) (by decide +kernel)) (goodIn_sub (fun _ h => List.mem_cons_of_mem _ (List.mem_append_right _ h)) (by decide +kernel))
set_option maxRecDepth 20000 in
theorem gX3_lock_X3_curveNumbered : GoodIn wsX3_lock (wsV RX3 45 RX3 yX3_curveNumbered wsX3_curveNumbered) := goodIn_app (goodIn_of _ (by decide +kernel)) ggX3_lock_X3_curveNumbered
set_option maxRecDepth 20000 in
theorem ggX3_lock_X3_requireKey : GoodIn wsX3_lock wsX3_requireKey := goodIn_ca (goodIn_r _ [11, 6, 7, 51, 52] (by decide +kernel) (by decide +kernel)) (goodIn_sub (fun _ h => List.mem_cons_of_mem _ (List.mem_append_right _ h)) (by decide +kernel))
set_option maxRecDepth 20000 in
theorem gX3_lock_X3_requireKey : GoodIn wsX3_lock (va_wsS RX3 76 yX3_requireKey wsX3_requireKey) := goodIn_app (goodIn_of _ (by decide +kernel)) ggX3_lock_X3_requireKey
set_option maxRecDepth 20000 in
theorem ggX3_lock_X3_saveState : GoodIn wsX3_lock wsX3_saveState := goodIn_r _ [15, 16, 17, 8, 18, 19, 20, 4, 21, 22, 23, 24, 25, 26, 27, 28, 29, 30, 31, 32, 33, 34, 35, 36, 43, 44, 45, 46, 47, 48, 49, 50, 51, 52] (by decide +kernel) (by decide +kernel)
set_option maxRecDepth 20000 in
theorem gX3_lock_X3_saveState : GoodIn wsX3_lock (wsV RX3 69 RX3 yX3_saveState wsX3_saveState) := goodIn_app (goodIn_of _ (by decide +kernel)) ggX3_lock_X3_saveState
set_option maxRecDepth 20000 in
theorem ggX3_lock_X0_cell : GoodIn wsX3_lock wsX0_cell := goodIn_r _ [39, 31, 32, 51, 52] (by decide +kernel) (by decide +kernel)
set_option maxRecDepth 20000 in
theorem gX3_lock_X0_cell_n87 : GoodIn wsX3_lock (wsX0_cell) := ggX3_lock_X0_cell
set_option maxRecDepth 20000 in
theorem ggX3_lock_X0_put : GoodIn wsX3_lock wsX0_put := goodIn_r _ [42, 31, 32, 51, 52] (by decide +kernel) (by decide +kernel)
set_option maxRecDepth 20000 in
theorem gX3_lock_X0_put_n91 : GoodIn wsX3_lock (wsX0_put) := ggX3_lock_X0_put
theorem dX3_lock_0 : decode cX3_lock 0 = .ok (.aload_n 0, 1) := by decide +kernel
theorem dX3_lock_1 : decode cX3_lock 1 = .ok (.iload_n 1, 1) := by decide +kernel
theorem dX3_lock_2 : decode cX3_lock 2 = .ok (.invokevirtual 45, 3) := by decide +kernel
theorem dX3_lock_5 : decode cX3_lock 5 = .ok (.astore 4, 2) := by decide +kernel
theorem dX3_lock_7 : decode cX3_lock 7 = .ok (.aload 4, 2) := by decide +kernel
theorem dX3_lock_9 : decode cX3_lock 9 = .ok (.iload_n 2, 1) := by decide +kernel
theorem dX3_lock_10 : decode cX3_lock 10 = .ok (.invokestatic 76, 3) := by decide +kernel
theorem dX3_lock_13 : decode cX3_lock 13 = .ok (.aload_n 0, 1) := by decide +kernel
theorem dX3_lock_14 : decode cX3_lock 14 = .ok (.invokevirtual 69, 3) := by decide +kernel
theorem dX3_lock_17 : decode cX3_lock 17 = .ok (.aload 4, 2) := by decide +kernel
theorem dX3_lock_19 : decode cX3_lock 19 = .ok (.iload_n 2, 1) := by decide +kernel
theorem dX3_lock_20 : decode cX3_lock 20 = .ok (.iconst 5, 1) := by decide +kernel
theorem dX3_lock_21 : decode cX3_lock 21 = .ok (.invokevirtual 87, 3) := by decide +kernel
theorem dX3_lock_24 : decode cX3_lock 24 = .ok (.istore 5, 2) := by decide +kernel
theorem dX3_lock_26 : decode cX3_lock 26 = .ok (.aload 4, 2) := by decide +kernel
theorem dX3_lock_28 : decode cX3_lock 28 = .ok (.iload_n 2, 1) := by decide +kernel
theorem dX3_lock_29 : decode cX3_lock 29 = .ok (.iconst 5, 1) := by decide +kernel
theorem dX3_lock_30 : decode cX3_lock 30 = .ok (.iload_n 3, 1) := by decide +kernel
theorem dX3_lock_31 : decode cX3_lock 31 = .ok (.ifCond .eq 7, 3) := by decide +kernel
theorem dX3_lock_34 : decode cX3_lock 34 = .ok (.iconst 1, 1) := by decide +kernel
theorem dX3_lock_35 : decode cX3_lock 35 = .ok (.goto 4, 3) := by decide +kernel
theorem dX3_lock_38 : decode cX3_lock 38 = .ok (.iconst 0, 1) := by decide +kernel
theorem dX3_lock_39 : decode cX3_lock 39 = .ok (.invokevirtual 91, 3) := by decide +kernel
theorem dX3_lock_42 : decode cX3_lock 42 = .ok (.iload 5, 2) := by decide +kernel
theorem dX3_lock_44 : decode cX3_lock 44 = .ok (.ireturn, 1) := by decide +kernel
set_option maxRecDepth 20000 in
theorem ggX3_stretch_X3_curveNumbered : GoodIn wsX3_stretch wsX3_curveNumbered := goodIn_ca (goodIn_r _ [7, 8, 9, 10, 65, 66, 67, 68, 69, 70, 71, 72] (by decide +kernel) (by decide +kernel)) (goodIn_sub (fun _ h => List.mem_cons_of_mem _ (List.mem_append_left _ (List.mem_append_right _ h))) (by decide +kernel))
set_option maxRecDepth 20000 in
theorem gX3_stretch_X3_curveNumbered : GoodIn wsX3_stretch (wsV RX3 45 RX3 yX3_curveNumbered wsX3_curveNumbered) := goodIn_app (goodIn_of _ (by decide +kernel)) ggX3_stretch_X3_curveNumbered
set_option maxRecDepth 20000 in
theorem ggX3_stretch_X3_requireSpan : GoodIn wsX3_stretch wsX3_requireSpan := goodIn_ca (goodIn_r _ [13, 14, 15, 6, 16, 17, 18] (by decide +kernel) (by decide +kernel)) (goodIn_sub (fun _ h => List.mem_cons_of_mem _ (List.mem_append_right _ h)) (by decide +kernel))
set_option maxRecDepth 20000 in
theorem gX3_stretch_X3_requireSpan : GoodIn wsX3_stretch (va_wsS RX3 104 yX3_requireSpan wsX3_requireSpan) := goodIn_app (goodIn_of _ (by decide +kernel)) ggX3_stretch_X3_requireSpan
set_option maxRecDepth 20000 in
theorem ggX3_stretch_X3_requireRange : GoodIn wsX3_stretch wsX3_requireRange := goodIn_ca (goodIn_r _ [16, 17, 18] (by decide +kernel) (by decide +kernel)) (goodIn_sub (fun _ h => List.mem_cons_of_mem _ (List.mem_append_right _ h)) (by decide +kernel))
set_option maxRecDepth 20000 in
theorem gX3_stretch_X3_requireRange : GoodIn wsX3_stretch (va_wsS RX3 49 yX3_requireRange wsX3_requireRange) := goodIn_app (goodIn_of _ (by decide +kernel)) ggX3_stretch_X3_requireRange
set_option maxRecDepth 20000 in
theorem ggX3_stretch_X0_canStretch : GoodIn wsX3_stretch wsX0_canStretch := goodIn_r _ [22, 23, 24, 25, 26, 20, 27, 28, 29, 30, 31, 32, 33, 34, 35, 73, 74] (by decide +kernel) (by decide +kernel)
set_option maxRecDepth 20000 in
theorem gX3_stretch_X0_canStretch_n108 : GoodIn wsX3_stretch (wsX0_canStretch) := ggX3_stretch_X0_canStretch
set_option maxRecDepth 20000 in
theorem ggX3_stretch_X3_saveState : GoodIn wsX3_stretch wsX3_saveState := goodIn_r _ [39, 40, 41, 10, 42, 43, 44, 6, 45, 46, 47, 48, 49, 50, 51, 20, 52, 53, 23, 28, 54, 55, 56, 57, 65, 66, 67, 68, 69, 70, 71, 72, 73, 74] (by decide +kernel) (by decide +kernel)
set_option maxRecDepth 20000 in
theorem gX3_stretch_X3_saveState : GoodIn wsX3_stretch (wsV RX3 69 RX3 yX3_saveState wsX3_saveState) := goodIn_app (goodIn_of _ (by decide +kernel)) ggX3_stretch_X3_saveState
set_option maxRecDepth 20000 in
theorem ggX3_stretch_X0_stretchSpan : GoodIn wsX3_stretch wsX0_stretchSpan := goodIn_r _ [60, 23, 24, 25, 26, 20, 27, 28, 29, 30, 31, 61, 62, 63, 64, 73, 74] (by decide +kernel) (by decide +kernel)
set_option maxRecDepth 20000 in
theorem gX3_stretch_X0_stretchSpan_n114 : GoodIn wsX3_stretch (wsX0_stretchSpan) := ggX3_stretch_X0_stretchSpan
theorem dX3_stretch_0 : decode cX3_stretch 0 = .ok (.aload_n 0, 1) := by decide +kernel
theorem dX3_stretch_1 : decode cX3_stretch 1 = .ok (.iload_n 1, 1) := by decide +kernel
theorem dX3_stretch_2 : decode cX3_stretch 2 = .ok (.invokevirtual 45, 3) := by decide +kernel
theorem dX3_stretch_5 : decode cX3_stretch 5 = .ok (.astore 5, 2) := by decide +kernel
theorem dX3_stretch_7 : decode cX3_stretch 7 = .ok (.iload_n 2, 1) := by decide +kernel
theorem dX3_stretch_8 : decode cX3_stretch 8 = .ok (.iload_n 3, 1) := by decide +kernel
theorem dX3_stretch_9 : decode cX3_stretch 9 = .ok (.invokestatic 104, 3) := by decide +kernel
theorem dX3_stretch_12 : decode cX3_stretch 12 = .ok (.iload 4, 2) := by decide +kernel
theorem dX3_stretch_14 : decode cX3_stretch 14 = .ok (.bipush 10, 2) := by decide +kernel
theorem dX3_stretch_16 : decode cX3_stretch 16 = .ok (.sipush 500, 3) := by decide +kernel
theorem dX3_stretch_19 : decode cX3_stretch 19 = .ok (.invokestatic 49, 3) := by decide +kernel
theorem dX3_stretch_22 : decode cX3_stretch 22 = .ok (.aload 5, 2) := by decide +kernel
theorem dX3_stretch_24 : decode cX3_stretch 24 = .ok (.iload_n 2, 1) := by decide +kernel
theorem dX3_stretch_25 : decode cX3_stretch 25 = .ok (.iload_n 3, 1) := by decide +kernel
theorem dX3_stretch_26 : decode cX3_stretch 26 = .ok (.iload 4, 2) := by decide +kernel
theorem dX3_stretch_28 : decode cX3_stretch 28 = .ok (.invokevirtual 108, 3) := by decide +kernel
theorem dX3_stretch_31 : decode cX3_stretch 31 = .ok (.ifCond .ne 13, 3) := by decide +kernel
theorem dX3_stretch_34 : decode cX3_stretch 34 = .ok (.new 56, 3) := by decide +kernel
theorem dX3_stretch_37 : decode cX3_stretch 37 = .ok (.dup, 1) := by decide +kernel
theorem dX3_stretch_38 : decode cX3_stretch 38 = .ok (.ldc 112, 2) := by decide +kernel
theorem dX3_stretch_40 : decode cX3_stretch 40 = .ok (.invokespecial 60, 3) := by decide +kernel
theorem dX3_stretch_43 : decode cX3_stretch 43 = .ok (.athrow, 1) := by decide +kernel
theorem dX3_stretch_44 : decode cX3_stretch 44 = .ok (.aload_n 0, 1) := by decide +kernel
theorem dX3_stretch_45 : decode cX3_stretch 45 = .ok (.invokevirtual 69, 3) := by decide +kernel
theorem dX3_stretch_48 : decode cX3_stretch 48 = .ok (.aload 5, 2) := by decide +kernel
theorem dX3_stretch_50 : decode cX3_stretch 50 = .ok (.iload_n 2, 1) := by decide +kernel
theorem dX3_stretch_51 : decode cX3_stretch 51 = .ok (.iload_n 3, 1) := by decide +kernel
theorem dX3_stretch_52 : decode cX3_stretch 52 = .ok (.iload 4, 2) := by decide +kernel
theorem dX3_stretch_54 : decode cX3_stretch 54 = .ok (.invokevirtual 114, 3) := by decide +kernel
theorem dX3_stretch_57 : decode cX3_stretch 57 = .ok (.ireturn, 1) := by decide +kernel
set_option maxRecDepth 20000 in
theorem ggX3_copy_X3_curveNumbered : GoodIn wsX3_copy wsX3_curveNumbered := goodIn_ca (goodIn_r _ [7, 8, 9, 10, 71, 72, 73, 74, 75, 76, 77, 78] (by decide +kernel) (by decide +kernel)) (goodIn_sub (fun _ h => List.mem_cons_of_mem _ (List.mem_append_left _ (List.mem_append_right _ h))) (by decide +kernel))
set_option maxRecDepth 20000 in
theorem gX3_copy_X3_curveNumbered : GoodIn wsX3_copy (wsV RX3 45 RX3 yX3_curveNumbered wsX3_curveNumbered) := goodIn_app (goodIn_of _ (by decide +kernel)) ggX3_copy_X3_curveNumbered
set_option maxRecDepth 20000 in
theorem ggX3_copy_X3_requireRange : GoodIn wsX3_copy wsX3_requireRange := goodIn_ca (goodIn_r _ [13, 14, 15] (by decide +kernel) (by decide +kernel)) (goodIn_sub (fun _ h => List.mem_cons_of_mem _ (List.mem_append_right _ h)) (by decide +kernel))
set_option maxRecDepth 20000 in
theorem gX3_copy_X3_requireRange : GoodIn wsX3_copy (va_wsS RX3 49 yX3_requireRange wsX3_requireRange) := goodIn_app (goodIn_of _ (by decide +kernel)) ggX3_copy_X3_requireRange
set_option maxRecDepth 20000 in
theorem ggX3_copy_X3_requireNoLock : GoodIn wsX3_copy wsX3_requireNoLock := goodIn_ca (goodIn_r _ [18, 1, 2, 19, 20, 21, 22, 23, 24, 25, 26, 27, 28, 29, 30, 31, 32, 69, 70] (by decide +kernel) (by decide +kernel)) (goodIn_sub (fun _ h => List.mem_cons_of_mem _ (List.mem_append_left _ (List.mem_append_left _ (List.mem_append_right _ h)))) (by decide +kernel))
set_option maxRecDepth 20000 in
theorem gX3_copy_X3_requireNoLock : GoodIn wsX3_copy (va_wsS RX3 118 yX3_requireNoLock wsX3_requireNoLock) := goodIn_app (goodIn_of _ (by decide +kernel)) ggX3_copy_X3_requireNoLock
set_option maxRecDepth 20000 in
theorem ggX3_copy_X0_canRaise : GoodIn wsX3_copy wsX0_canRaise := goodIn_r _ [35, 23, 36, 37, 38, 39, 28, 29, 30, 20, 31, 32, 69, 70] (by decide +kernel) (by decide +kernel)
set_option maxRecDepth 20000 in
theorem gX3_copy_X0_canRaise_n122 : GoodIn wsX3_copy (wsX0_canRaise) := ggX3_copy_X0_canRaise
set_option maxRecDepth 20000 in
theorem ggX3_copy_X3_saveState : GoodIn wsX3_copy wsX3_saveState := goodIn_r _ [43, 44, 45, 10, 46, 47, 48, 6, 49, 50, 51, 52, 53, 54, 55, 20, 56, 57, 23, 32, 58, 59, 60, 61, 71, 72, 73, 74, 75, 76, 77, 78, 69, 70] (by decide +kernel) (by decide +kernel)
set_option maxRecDepth 20000 in
theorem gX3_copy_X3_saveState : GoodIn wsX3_copy (wsV RX3 69 RX3 yX3_saveState wsX3_saveState) := goodIn_app (goodIn_of _ (by decide +kernel)) ggX3_copy_X3_saveState
set_option maxRecDepth 20000 in
theorem ggX3_copy_X0_become : GoodIn wsX3_copy wsX0_become := goodIn_r _ [57, 23, 32, 58, 59, 60, 61, 69, 70] (by decide +kernel) (by decide +kernel)
set_option maxRecDepth 20000 in
theorem gX3_copy_X0_become_n128 : GoodIn wsX3_copy (wsX0_become) := ggX3_copy_X0_become
set_option maxRecDepth 20000 in
theorem ggX3_copy_X0_raise : GoodIn wsX3_copy wsX0_raise := goodIn_r _ [64, 23, 28, 29, 30, 20, 31, 32, 65, 66, 67, 68, 69, 70] (by decide +kernel) (by decide +kernel)
set_option maxRecDepth 20000 in
theorem gX3_copy_X0_raise_n131 : GoodIn wsX3_copy (wsX0_raise) := ggX3_copy_X0_raise
theorem dX3_copy_0 : decode cX3_copy 0 = .ok (.aload_n 0, 1) := by decide +kernel
theorem dX3_copy_1 : decode cX3_copy 1 = .ok (.iload_n 1, 1) := by decide +kernel
theorem dX3_copy_2 : decode cX3_copy 2 = .ok (.invokevirtual 45, 3) := by decide +kernel
theorem dX3_copy_5 : decode cX3_copy 5 = .ok (.astore 4, 2) := by decide +kernel
theorem dX3_copy_7 : decode cX3_copy 7 = .ok (.aload_n 0, 1) := by decide +kernel
theorem dX3_copy_8 : decode cX3_copy 8 = .ok (.iload_n 2, 1) := by decide +kernel
theorem dX3_copy_9 : decode cX3_copy 9 = .ok (.invokevirtual 45, 3) := by decide +kernel
theorem dX3_copy_12 : decode cX3_copy 12 = .ok (.astore 5, 2) := by decide +kernel
theorem dX3_copy_14 : decode cX3_copy 14 = .ok (.iload_n 3, 1) := by decide +kernel
theorem dX3_copy_15 : decode cX3_copy 15 = .ok (.sipush (-9999), 3) := by decide +kernel
theorem dX3_copy_18 : decode cX3_copy 18 = .ok (.sipush 9999, 3) := by decide +kernel
theorem dX3_copy_21 : decode cX3_copy 21 = .ok (.invokestatic 49, 3) := by decide +kernel
theorem dX3_copy_24 : decode cX3_copy 24 = .ok (.aload 4, 2) := by decide +kernel
theorem dX3_copy_26 : decode cX3_copy 26 = .ok (.invokestatic 118, 3) := by decide +kernel
theorem dX3_copy_29 : decode cX3_copy 29 = .ok (.aload 5, 2) := by decide +kernel
theorem dX3_copy_31 : decode cX3_copy 31 = .ok (.iload_n 3, 1) := by decide +kernel
theorem dX3_copy_32 : decode cX3_copy 32 = .ok (.invokevirtual 122, 3) := by decide +kernel
theorem dX3_copy_35 : decode cX3_copy 35 = .ok (.ifCond .ne 13, 3) := by decide +kernel
theorem dX3_copy_38 : decode cX3_copy 38 = .ok (.new 56, 3) := by decide +kernel
theorem dX3_copy_41 : decode cX3_copy 41 = .ok (.dup, 1) := by decide +kernel
theorem dX3_copy_42 : decode cX3_copy 42 = .ok (.ldc 126, 2) := by decide +kernel
theorem dX3_copy_44 : decode cX3_copy 44 = .ok (.invokespecial 60, 3) := by decide +kernel
theorem dX3_copy_47 : decode cX3_copy 47 = .ok (.athrow, 1) := by decide +kernel
theorem dX3_copy_48 : decode cX3_copy 48 = .ok (.aload_n 0, 1) := by decide +kernel
theorem dX3_copy_49 : decode cX3_copy 49 = .ok (.invokevirtual 69, 3) := by decide +kernel
theorem dX3_copy_52 : decode cX3_copy 52 = .ok (.aload 4, 2) := by decide +kernel
theorem dX3_copy_54 : decode cX3_copy 54 = .ok (.aload 5, 2) := by decide +kernel
theorem dX3_copy_56 : decode cX3_copy 56 = .ok (.invokevirtual 128, 3) := by decide +kernel
theorem dX3_copy_59 : decode cX3_copy 59 = .ok (.aload 4, 2) := by decide +kernel
theorem dX3_copy_61 : decode cX3_copy 61 = .ok (.iload_n 3, 1) := by decide +kernel
theorem dX3_copy_62 : decode cX3_copy 62 = .ok (.invokevirtual 131, 3) := by decide +kernel
theorem dX3_copy_65 : decode cX3_copy 65 = .ok (.aload 4, 2) := by decide +kernel
theorem dX3_copy_67 : decode cX3_copy 67 = .ok (.getfield 53, 3) := by decide +kernel
theorem dX3_copy_70 : decode cX3_copy 70 = .ok (.ireturn, 1) := by decide +kernel
set_option maxRecDepth 20000 in
theorem ggX3_key_X3_curveNumbered : GoodIn wsX3_key wsX3_curveNumbered := goodIn_ca (goodIn_r _ [5, 6, 7, 8, 35, 36, 37, 38, 39, 40, 41, 42] (by decide +kernel) (by decide +kernel)) (goodIn_sub (fun _ h => List.mem_cons_of_mem _ (List.mem_append_left _ (List.mem_append_right _ h))) (by decide +kernel))
set_option maxRecDepth 20000 in
theorem gX3_key_X3_curveNumbered : GoodIn wsX3_key (wsV RX3 45 RX3 yX3_curveNumbered wsX3_curveNumbered) := goodIn_app (goodIn_of _ (by decide +kernel)) ggX3_key_X3_curveNumbered
set_option maxRecDepth 20000 in
theorem ggX3_key_X3_requireKey : GoodIn wsX3_key wsX3_requireKey := goodIn_ca (goodIn_r _ [11, 6, 7, 33, 34] (by decide +kernel) (by decide +kernel)) (goodIn_sub (fun _ h => List.mem_cons_of_mem _ (List.mem_append_left _ (List.mem_append_right _ h))) (by decide +kernel))
set_option maxRecDepth 20000 in
theorem gX3_key_X3_requireKey : GoodIn wsX3_key (va_wsS RX3 76 yX3_requireKey wsX3_requireKey) := goodIn_app (goodIn_of _ (by decide +kernel)) ggX3_key_X3_requireKey
set_option maxRecDepth 20000 in
theorem ggX3_key_X3_requireRange : GoodIn wsX3_key wsX3_requireRange := goodIn_ca (goodIn_r _ [14, 15, 16] (by decide +kernel) (by decide +kernel)) (goodIn_sub (fun _ h => List.mem_cons_of_mem _ (List.mem_append_right _ h)) (by decide +kernel))
set_option maxRecDepth 20000 in
theorem gX3_key_X3_requireRange : GoodIn wsX3_key (va_wsS RX3 49 yX3_requireRange wsX3_requireRange) := goodIn_app (goodIn_of _ (by decide +kernel)) ggX3_key_X3_requireRange
set_option maxRecDepth 20000 in
theorem ggX3_key_X3_aboutKey : GoodIn wsX3_key wsX3_aboutKey := goodIn_r _ [19, 20, 21, 22, 23, 24, 25, 26, 27, 28, 29, 30, 31, 32, 33, 34] (by decide +kernel) (by decide +kernel)
set_option maxRecDepth 20000 in
theorem gX3_key_X3_aboutKey : GoodIn wsX3_key (va_wsS RX3 138 yX3_aboutKey wsX3_aboutKey) := goodIn_app (goodIn_of _ (by decide +kernel)) ggX3_key_X3_aboutKey
theorem dX3_key_0 : decode cX3_key 0 = .ok (.aload_n 0, 1) := by decide +kernel
theorem dX3_key_1 : decode cX3_key 1 = .ok (.iload_n 1, 1) := by decide +kernel
theorem dX3_key_2 : decode cX3_key 2 = .ok (.invokevirtual 45, 3) := by decide +kernel
theorem dX3_key_5 : decode cX3_key 5 = .ok (.astore 4, 2) := by decide +kernel
theorem dX3_key_7 : decode cX3_key 7 = .ok (.iload_n 2, 1) := by decide +kernel
theorem dX3_key_8 : decode cX3_key 8 = .ok (.iconst (-1), 1) := by decide +kernel
theorem dX3_key_9 : decode cX3_key 9 = .ok (.if_icmp .eq 9, 3) := by decide +kernel
theorem dX3_key_12 : decode cX3_key 12 = .ok (.aload 4, 2) := by decide +kernel
theorem dX3_key_14 : decode cX3_key 14 = .ok (.iload_n 2, 1) := by decide +kernel
theorem dX3_key_15 : decode cX3_key 15 = .ok (.invokestatic 76, 3) := by decide +kernel
theorem dX3_key_18 : decode cX3_key 18 = .ok (.iload_n 3, 1) := by decide +kernel
theorem dX3_key_19 : decode cX3_key 19 = .ok (.iconst 0, 1) := by decide +kernel
theorem dX3_key_20 : decode cX3_key 20 = .ok (.bipush 6, 2) := by decide +kernel
theorem dX3_key_22 : decode cX3_key 22 = .ok (.invokestatic 49, 3) := by decide +kernel
theorem dX3_key_25 : decode cX3_key 25 = .ok (.iload_n 2, 1) := by decide +kernel
theorem dX3_key_26 : decode cX3_key 26 = .ok (.iconst (-1), 1) := by decide +kernel
theorem dX3_key_27 : decode cX3_key 27 = .ok (.if_icmp .ne 11, 3) := by decide +kernel
theorem dX3_key_30 : decode cX3_key 30 = .ok (.aload 4, 2) := by decide +kernel
theorem dX3_key_32 : decode cX3_key 32 = .ok (.getfield 53, 3) := by decide +kernel
theorem dX3_key_35 : decode cX3_key 35 = .ok (.goto 10, 3) := by decide +kernel
theorem dX3_key_38 : decode cX3_key 38 = .ok (.aload 4, 2) := by decide +kernel
theorem dX3_key_40 : decode cX3_key 40 = .ok (.iload_n 2, 1) := by decide +kernel
theorem dX3_key_41 : decode cX3_key 41 = .ok (.iload_n 3, 1) := by decide +kernel
theorem dX3_key_42 : decode cX3_key 42 = .ok (.invokestatic 138, 3) := by decide +kernel
theorem dX3_key_45 : decode cX3_key 45 = .ok (.ireturn, 1) := by decide +kernel
set_option maxRecDepth 20000 in
theorem ggX3_value_X3_curveNumbered : GoodIn wsX3_value wsX3_curveNumbered := goodIn_ca (goodIn_r _ [5, 6, 7, 8, 52, 53, 54, 55, 56, 57, 58, 59] (by decide +kernel) (by decide +kernel)) (goodIn_sub (fun _ h => List.mem_cons_of_mem _ (List.mem_append_left _ (List.mem_append_right _ h))) (by decide +kernel))
set_option maxRecDepth 20000 in
theorem gX3_value_X3_curveNumbered : GoodIn wsX3_value (wsV RX3 45 RX3 yX3_curveNumbered wsX3_curveNumbered) := goodIn_app (goodIn_of _ (by decide +kernel)) ggX3_value_X3_curveNumbered
set_option maxRecDepth 20000 in
theorem ggX3_value_X3_requireRange : GoodIn wsX3_value wsX3_requireRange := goodIn_ca (goodIn_r _ [11, 12, 13] (by decide +kernel) (by decide +kernel)) (goodIn_sub (fun _ h => List.mem_cons_of_mem _ (List.mem_append_right _ h)) (by decide +kernel))
set_option maxRecDepth 20000 in
theorem gX3_value_X3_requireRange : GoodIn wsX3_value (va_wsS RX3 49 yX3_requireRange wsX3_requireRange) := goodIn_app (goodIn_of _ (by decide +kernel)) ggX3_value_X3_requireRange
set_option maxRecDepth 20000 in
theorem ggX3_value_X0_valueAt : GoodIn wsX3_value wsX0_valueAt := goodIn_r _ [17, 18, 19, 20, 15, 21, 22, 23, 24, 25, 26, 27, 28, 29, 30, 31, 32, 33, 34, 35, 36, 37, 38, 39, 40, 41, 42, 43, 44, 45, 46, 47, 48, 49, 50, 51, 60, 61] (by decide +kernel) (by decide +kernel)
set_option maxRecDepth 20000 in
theorem gX3_value_X0_valueAt_n142 : GoodIn wsX3_value (wsX0_valueAt) := ggX3_value_X0_valueAt
theorem dX3_value_0 : decode cX3_value 0 = .ok (.aload_n 0, 1) := by decide +kernel
theorem dX3_value_1 : decode cX3_value 1 = .ok (.iload_n 1, 1) := by decide +kernel
theorem dX3_value_2 : decode cX3_value 2 = .ok (.invokevirtual 45, 3) := by decide +kernel
theorem dX3_value_5 : decode cX3_value 5 = .ok (.astore_n 3, 1) := by decide +kernel
theorem dX3_value_6 : decode cX3_value 6 = .ok (.iload_n 2, 1) := by decide +kernel
theorem dX3_value_7 : decode cX3_value 7 = .ok (.iconst 0, 1) := by decide +kernel
theorem dX3_value_8 : decode cX3_value 8 = .ok (.sipush 999, 3) := by decide +kernel
theorem dX3_value_11 : decode cX3_value 11 = .ok (.invokestatic 49, 3) := by decide +kernel
theorem dX3_value_14 : decode cX3_value 14 = .ok (.aload_n 3, 1) := by decide +kernel
theorem dX3_value_15 : decode cX3_value 15 = .ok (.iload_n 2, 1) := by decide +kernel
theorem dX3_value_16 : decode cX3_value 16 = .ok (.invokevirtual 142, 3) := by decide +kernel
theorem dX3_value_19 : decode cX3_value 19 = .ok (.ireturn, 1) := by decide +kernel
theorem dX3_curveNumbered_0 : decode cX3_curveNumbered 0 = .ok (.iload_n 1, 1) := by decide +kernel
theorem dX3_curveNumbered_1 : decode cX3_curveNumbered 1 = .ok (.ifCond .lt 8, 3) := by decide +kernel
theorem dX3_curveNumbered_4 : decode cX3_curveNumbered 4 = .ok (.iload_n 1, 1) := by decide +kernel
theorem dX3_curveNumbered_5 : decode cX3_curveNumbered 5 = .ok (.iconst 4, 1) := by decide +kernel
theorem dX3_curveNumbered_6 : decode cX3_curveNumbered 6 = .ok (.if_icmp .lt 13, 3) := by decide +kernel
theorem dX3_curveNumbered_9 : decode cX3_curveNumbered 9 = .ok (.new 176, 3) := by decide +kernel
theorem dX3_curveNumbered_12 : decode cX3_curveNumbered 12 = .ok (.dup, 1) := by decide +kernel
theorem dX3_curveNumbered_13 : decode cX3_curveNumbered 13 = .ok (.ldc 210, 2) := by decide +kernel
theorem dX3_curveNumbered_15 : decode cX3_curveNumbered 15 = .ok (.invokespecial 180, 3) := by decide +kernel
theorem dX3_curveNumbered_18 : decode cX3_curveNumbered 18 = .ok (.athrow, 1) := by decide +kernel
theorem dX3_curveNumbered_19 : decode cX3_curveNumbered 19 = .ok (.aload_n 0, 1) := by decide +kernel
theorem dX3_curveNumbered_20 : decode cX3_curveNumbered 20 = .ok (.getfield 12, 3) := by decide +kernel
theorem dX3_curveNumbered_23 : decode cX3_curveNumbered 23 = .ok (.getfield 200, 3) := by decide +kernel
theorem dX3_curveNumbered_26 : decode cX3_curveNumbered 26 = .ok (.iload_n 1, 1) := by decide +kernel
theorem dX3_curveNumbered_27 : decode cX3_curveNumbered 27 = .ok (.aaload, 1) := by decide +kernel
theorem dX3_curveNumbered_28 : decode cX3_curveNumbered 28 = .ok (.areturn, 1) := by decide +kernel
theorem dX3_requireKey_0 : decode cX3_requireKey 0 = .ok (.iload_n 1, 1) := by decide +kernel
theorem dX3_requireKey_1 : decode cX3_requireKey 1 = .ok (.ifCond .lt 11, 3) := by decide +kernel
theorem dX3_requireKey_4 : decode cX3_requireKey 4 = .ok (.iload_n 1, 1) := by decide +kernel
theorem dX3_requireKey_5 : decode cX3_requireKey 5 = .ok (.aload_n 0, 1) := by decide +kernel
theorem dX3_requireKey_6 : decode cX3_requireKey 6 = .ok (.getfield 53, 3) := by decide +kernel
theorem dX3_requireKey_9 : decode cX3_requireKey 9 = .ok (.if_icmp .lt 13, 3) := by decide +kernel
theorem dX3_requireKey_12 : decode cX3_requireKey 12 = .ok (.new 176, 3) := by decide +kernel
theorem dX3_requireKey_15 : decode cX3_requireKey 15 = .ok (.dup, 1) := by decide +kernel
theorem dX3_requireKey_16 : decode cX3_requireKey 16 = .ok (.ldc 212, 2) := by decide +kernel
theorem dX3_requireKey_18 : decode cX3_requireKey 18 = .ok (.invokespecial 180, 3) := by decide +kernel
theorem dX3_requireKey_21 : decode cX3_requireKey 21 = .ok (.athrow, 1) := by decide +kernel
theorem dX3_requireKey_22 : decode cX3_requireKey 22 = .ok (.return_, 1) := by decide +kernel
theorem dX3_requireRange_0 : decode cX3_requireRange 0 = .ok (.iload_n 0, 1) := by decide +kernel
theorem dX3_requireRange_1 : decode cX3_requireRange 1 = .ok (.iload_n 1, 1) := by decide +kernel
theorem dX3_requireRange_2 : decode cX3_requireRange 2 = .ok (.if_icmp .lt 8, 3) := by decide +kernel
theorem dX3_requireRange_5 : decode cX3_requireRange 5 = .ok (.iload_n 0, 1) := by decide +kernel
theorem dX3_requireRange_6 : decode cX3_requireRange 6 = .ok (.iload_n 2, 1) := by decide +kernel
theorem dX3_requireRange_7 : decode cX3_requireRange 7 = .ok (.if_icmp .le 13, 3) := by decide +kernel
theorem dX3_requireRange_10 : decode cX3_requireRange 10 = .ok (.new 214, 3) := by decide +kernel
theorem dX3_requireRange_13 : decode cX3_requireRange 13 = .ok (.dup, 1) := by decide +kernel
theorem dX3_requireRange_14 : decode cX3_requireRange 14 = .ok (.ldc 216, 2) := by decide +kernel
theorem dX3_requireRange_16 : decode cX3_requireRange 16 = .ok (.invokespecial 218, 3) := by decide +kernel
theorem dX3_requireRange_19 : decode cX3_requireRange 19 = .ok (.athrow, 1) := by decide +kernel
theorem dX3_requireRange_20 : decode cX3_requireRange 20 = .ok (.return_, 1) := by decide +kernel
set_option maxRecDepth 20000 in
theorem ggX3_requireSpan_X3_requireRange : GoodIn wsX3_requireSpan wsX3_requireRange := goodIn_ca (goodIn_r _ [4, 5, 6] (by decide +kernel) (by decide +kernel)) (goodIn_sub (fun _ h => List.mem_cons_of_mem _ (List.mem_append_right _ h)) (by decide +kernel))
set_option maxRecDepth 20000 in
theorem gX3_requireSpan_X3_requireRange : GoodIn wsX3_requireSpan (va_wsS RX3 49 yX3_requireRange wsX3_requireRange) := goodIn_app (goodIn_of _ (by decide +kernel)) ggX3_requireSpan_X3_requireRange
theorem dX3_requireSpan_0 : decode cX3_requireSpan 0 = .ok (.iload_n 0, 1) := by decide +kernel
theorem dX3_requireSpan_1 : decode cX3_requireSpan 1 = .ok (.iconst 0, 1) := by decide +kernel
theorem dX3_requireSpan_2 : decode cX3_requireSpan 2 = .ok (.sipush 998, 3) := by decide +kernel
theorem dX3_requireSpan_5 : decode cX3_requireSpan 5 = .ok (.invokestatic 49, 3) := by decide +kernel
theorem dX3_requireSpan_8 : decode cX3_requireSpan 8 = .ok (.iload_n 1, 1) := by decide +kernel
theorem dX3_requireSpan_9 : decode cX3_requireSpan 9 = .ok (.iload_n 0, 1) := by decide +kernel
theorem dX3_requireSpan_10 : decode cX3_requireSpan 10 = .ok (.iconst 1, 1) := by decide +kernel
theorem dX3_requireSpan_11 : decode cX3_requireSpan 11 = .ok (.iadd, 1) := by decide +kernel
theorem dX3_requireSpan_12 : decode cX3_requireSpan 12 = .ok (.sipush 999, 3) := by decide +kernel
theorem dX3_requireSpan_15 : decode cX3_requireSpan 15 = .ok (.invokestatic 49, 3) := by decide +kernel
theorem dX3_requireSpan_18 : decode cX3_requireSpan 18 = .ok (.return_, 1) := by decide +kernel
set_option maxRecDepth 20000 in
theorem ggX3_requireUnlocked_X0_isLocked : GoodIn wsX3_requireUnlocked wsX0_isLocked := goodIn_r _ [6, 7, 8, 9, 4, 10, 11, 12, 13, 14] (by decide +kernel) (by decide +kernel)
set_option maxRecDepth 20000 in
theorem gX3_requireUnlocked_X0_isLocked_n219 : GoodIn wsX3_requireUnlocked (wsX0_isLocked) := ggX3_requireUnlocked_X0_isLocked
theorem dX3_requireUnlocked_0 : decode cX3_requireUnlocked 0 = .ok (.aload_n 0, 1) := by decide +kernel
theorem dX3_requireUnlocked_1 : decode cX3_requireUnlocked 1 = .ok (.iload_n 1, 1) := by decide +kernel
theorem dX3_requireUnlocked_2 : decode cX3_requireUnlocked 2 = .ok (.invokevirtual 219, 3) := by decide +kernel
theorem dX3_requireUnlocked_5 : decode cX3_requireUnlocked 5 = .ok (.ifCond .eq 13, 3) := by decide +kernel
theorem dX3_requireUnlocked_8 : decode cX3_requireUnlocked 8 = .ok (.new 56, 3) := by decide +kernel
theorem dX3_requireUnlocked_11 : decode cX3_requireUnlocked 11 = .ok (.dup, 1) := by decide +kernel
theorem dX3_requireUnlocked_12 : decode cX3_requireUnlocked 12 = .ok (.ldc 222, 2) := by decide +kernel
theorem dX3_requireUnlocked_14 : decode cX3_requireUnlocked 14 = .ok (.invokespecial 60, 3) := by decide +kernel
theorem dX3_requireUnlocked_17 : decode cX3_requireUnlocked 17 = .ok (.athrow, 1) := by decide +kernel
theorem dX3_requireUnlocked_18 : decode cX3_requireUnlocked 18 = .ok (.return_, 1) := by decide +kernel
set_option maxRecDepth 20000 in
theorem ggX3_requireNoLock_X0_hasLock : GoodIn wsX3_requireNoLock wsX0_hasLock := goodIn_r _ [6, 7, 8, 9, 10, 4, 11, 12, 13, 14, 15, 16, 17, 18] (by decide +kernel) (by decide +kernel)
set_option maxRecDepth 20000 in
theorem gX3_requireNoLock_X0_hasLock_n224 : GoodIn wsX3_requireNoLock (wsX0_hasLock) := ggX3_requireNoLock_X0_hasLock
theorem dX3_requireNoLock_0 : decode cX3_requireNoLock 0 = .ok (.aload_n 0, 1) := by decide +kernel
theorem dX3_requireNoLock_1 : decode cX3_requireNoLock 1 = .ok (.invokevirtual 224, 3) := by decide +kernel
theorem dX3_requireNoLock_4 : decode cX3_requireNoLock 4 = .ok (.ifCond .eq 13, 3) := by decide +kernel
theorem dX3_requireNoLock_7 : decode cX3_requireNoLock 7 = .ok (.new 56, 3) := by decide +kernel
theorem dX3_requireNoLock_10 : decode cX3_requireNoLock 10 = .ok (.dup, 1) := by decide +kernel
theorem dX3_requireNoLock_11 : decode cX3_requireNoLock 11 = .ok (.ldc 228, 2) := by decide +kernel
theorem dX3_requireNoLock_13 : decode cX3_requireNoLock 13 = .ok (.invokespecial 60, 3) := by decide +kernel
theorem dX3_requireNoLock_16 : decode cX3_requireNoLock 16 = .ok (.athrow, 1) := by decide +kernel
theorem dX3_requireNoLock_17 : decode cX3_requireNoLock 17 = .ok (.return_, 1) := by decide +kernel
set_option maxRecDepth 20000 in
theorem ggX3_saveState_X3_dropOldestState : GoodIn wsX3_saveState wsX3_dropOldestState := goodIn_r _ [8, 2, 1, 24, 25, 26, 27, 28, 29, 30] (by decide +kernel) (by decide +kernel)
set_option maxRecDepth 20000 in
theorem gX3_saveState_X3_dropOldestState : GoodIn wsX3_saveState (wsV RX3 230 RX3 yX3_dropOldestState wsX3_dropOldestState) := goodIn_app (goodIn_of _ (by decide +kernel)) ggX3_saveState_X3_dropOldestState
set_option maxRecDepth 20000 in
theorem ggX3_saveState_X2_become : GoodIn wsX3_saveState wsX2_become := goodIn_r _ [12, 13, 14, 15, 16, 17, 18, 19, 20, 21, 22, 23, 31, 32, 33] (by decide +kernel) (by decide +kernel)
set_option maxRecDepth 20000 in
theorem gX3_saveState_X2_become_n195 : GoodIn wsX3_saveState (wsX2_become) := ggX3_saveState_X2_become
theorem dX3_saveState_0 : decode cX3_saveState 0 = .ok (.aload_n 0, 1) := by decide +kernel
theorem dX3_saveState_1 : decode cX3_saveState 1 = .ok (.getfield 20, 3) := by decide +kernel
theorem dX3_saveState_4 : decode cX3_saveState 4 = .ok (.iconst 4, 1) := by decide +kernel
theorem dX3_saveState_5 : decode cX3_saveState 5 = .ok (.if_icmp .lt 7, 3) := by decide +kernel
theorem dX3_saveState_8 : decode cX3_saveState 8 = .ok (.aload_n 0, 1) := by decide +kernel
theorem dX3_saveState_9 : decode cX3_saveState 9 = .ok (.invokevirtual 230, 3) := by decide +kernel
theorem dX3_saveState_12 : decode cX3_saveState 12 = .ok (.aload_n 0, 1) := by decide +kernel
theorem dX3_saveState_13 : decode cX3_saveState 13 = .ok (.getfield 16, 3) := by decide +kernel
theorem dX3_saveState_16 : decode cX3_saveState 16 = .ok (.aload_n 0, 1) := by decide +kernel
theorem dX3_saveState_17 : decode cX3_saveState 17 = .ok (.getfield 20, 3) := by decide +kernel
theorem dX3_saveState_20 : decode cX3_saveState 20 = .ok (.aaload, 1) := by decide +kernel
theorem dX3_saveState_21 : decode cX3_saveState 21 = .ok (.aload_n 0, 1) := by decide +kernel
theorem dX3_saveState_22 : decode cX3_saveState 22 = .ok (.getfield 12, 3) := by decide +kernel
theorem dX3_saveState_25 : decode cX3_saveState 25 = .ok (.invokevirtual 195, 3) := by decide +kernel
theorem dX3_saveState_28 : decode cX3_saveState 28 = .ok (.aload_n 0, 1) := by decide +kernel
theorem dX3_saveState_29 : decode cX3_saveState 29 = .ok (.dup, 1) := by decide +kernel
theorem dX3_saveState_30 : decode cX3_saveState 30 = .ok (.getfield 20, 3) := by decide +kernel
theorem dX3_saveState_33 : decode cX3_saveState 33 = .ok (.iconst 1, 1) := by decide +kernel
theorem dX3_saveState_34 : decode cX3_saveState 34 = .ok (.iadd, 1) := by decide +kernel
theorem dX3_saveState_35 : decode cX3_saveState 35 = .ok (.putfield 20, 3) := by decide +kernel
theorem dX3_saveState_38 : decode cX3_saveState 38 = .ok (.return_, 1) := by decide +kernel
theorem dX3_dropOldestState_0 : decode cX3_dropOldestState 0 = .ok (.aload_n 0, 1) := by decide +kernel
theorem dX3_dropOldestState_1 : decode cX3_dropOldestState 1 = .ok (.getfield 16, 3) := by decide +kernel
theorem dX3_dropOldestState_4 : decode cX3_dropOldestState 4 = .ok (.iconst 0, 1) := by decide +kernel
theorem dX3_dropOldestState_5 : decode cX3_dropOldestState 5 = .ok (.aaload, 1) := by decide +kernel
theorem dX3_dropOldestState_6 : decode cX3_dropOldestState 6 = .ok (.astore_n 1, 1) := by decide +kernel
theorem dX3_dropOldestState_7 : decode cX3_dropOldestState 7 = .ok (.iconst 1, 1) := by decide +kernel
theorem dX3_dropOldestState_8 : decode cX3_dropOldestState 8 = .ok (.istore_n 2, 1) := by decide +kernel
theorem dX3_dropOldestState_9 : decode cX3_dropOldestState 9 = .ok (.iload_n 2, 1) := by decide +kernel
theorem dX3_dropOldestState_10 : decode cX3_dropOldestState 10 = .ok (.iconst 4, 1) := by decide +kernel
theorem dX3_dropOldestState_11 : decode cX3_dropOldestState 11 = .ok (.if_icmp .ge 23, 3) := by decide +kernel
theorem dX3_dropOldestState_14 : decode cX3_dropOldestState 14 = .ok (.aload_n 0, 1) := by decide +kernel
theorem dX3_dropOldestState_15 : decode cX3_dropOldestState 15 = .ok (.getfield 16, 3) := by decide +kernel
theorem dX3_dropOldestState_18 : decode cX3_dropOldestState 18 = .ok (.iload_n 2, 1) := by decide +kernel
theorem dX3_dropOldestState_19 : decode cX3_dropOldestState 19 = .ok (.iconst 1, 1) := by decide +kernel
theorem dX3_dropOldestState_20 : decode cX3_dropOldestState 20 = .ok (.isub, 1) := by decide +kernel
theorem dX3_dropOldestState_21 : decode cX3_dropOldestState 21 = .ok (.aload_n 0, 1) := by decide +kernel
theorem dX3_dropOldestState_22 : decode cX3_dropOldestState 22 = .ok (.getfield 16, 3) := by decide +kernel
theorem dX3_dropOldestState_25 : decode cX3_dropOldestState 25 = .ok (.iload_n 2, 1) := by decide +kernel
theorem dX3_dropOldestState_26 : decode cX3_dropOldestState 26 = .ok (.aaload, 1) := by decide +kernel
theorem dX3_dropOldestState_27 : decode cX3_dropOldestState 27 = .ok (.aastore, 1) := by decide +kernel
theorem dX3_dropOldestState_28 : decode cX3_dropOldestState 28 = .ok (.iinc 2 1, 3) := by decide +kernel
theorem dX3_dropOldestState_31 : decode cX3_dropOldestState 31 = .ok (.goto (-22), 3) := by decide +kernel
theorem dX3_dropOldestState_34 : decode cX3_dropOldestState 34 = .ok (.aload_n 0, 1) := by decide +kernel
theorem dX3_dropOldestState_35 : decode cX3_dropOldestState 35 = .ok (.getfield 16, 3) := by decide +kernel
theorem dX3_dropOldestState_38 : decode cX3_dropOldestState 38 = .ok (.iconst 3, 1) := by decide +kernel
theorem dX3_dropOldestState_39 : decode cX3_dropOldestState 39 = .ok (.aload_n 1, 1) := by decide +kernel
theorem dX3_dropOldestState_40 : decode cX3_dropOldestState 40 = .ok (.aastore, 1) := by decide +kernel
theorem dX3_dropOldestState_41 : decode cX3_dropOldestState 41 = .ok (.aload_n 0, 1) := by decide +kernel
theorem dX3_dropOldestState_42 : decode cX3_dropOldestState 42 = .ok (.iconst 3, 1) := by decide +kernel
theorem dX3_dropOldestState_43 : decode cX3_dropOldestState 43 = .ok (.putfield 20, 3) := by decide +kernel
theorem dX3_dropOldestState_46 : decode cX3_dropOldestState 46 = .ok (.return_, 1) := by decide +kernel
set_option maxRecDepth 20000 in
theorem ggX3_aboutKey_X0_tangentOf : GoodIn wsX3_aboutKey wsX0_tangentOf := goodIn_r _ [4, 5, 6, 7, 8, 2, 9, 10, 11, 12, 13, 14, 15] (by decide +kernel) (by decide +kernel)
set_option maxRecDepth 20000 in
theorem gX3_aboutKey_X0_tangentOf_n101 : GoodIn wsX3_aboutKey (wsX0_tangentOf) := ggX3_aboutKey_X0_tangentOf
set_option maxRecDepth 20000 in
theorem ggX3_aboutKey_X0_cell : GoodIn wsX3_aboutKey wsX0_cell := goodIn_r _ [9, 5, 10, 14, 15] (by decide +kernel) (by decide +kernel)
set_option maxRecDepth 20000 in
theorem gX3_aboutKey_X0_cell_n87 : GoodIn wsX3_aboutKey (wsX0_cell) := ggX3_aboutKey_X0_cell
theorem dX3_aboutKey_0 : decode cX3_aboutKey 0 = .ok (.iload_n 2, 1) := by decide +kernel
theorem dX3_aboutKey_1 : decode cX3_aboutKey 1 = .ok (.lookupswitch 40 #[(5, 27), (6, 33)], 27) := by decide +kernel
theorem dX3_aboutKey_28 : decode cX3_aboutKey 28 = .ok (.aload_n 0, 1) := by decide +kernel
theorem dX3_aboutKey_29 : decode cX3_aboutKey 29 = .ok (.iload_n 1, 1) := by decide +kernel
theorem dX3_aboutKey_30 : decode cX3_aboutKey 30 = .ok (.invokevirtual 101, 3) := by decide +kernel
theorem dX3_aboutKey_33 : decode cX3_aboutKey 33 = .ok (.ireturn, 1) := by decide +kernel
theorem dX3_aboutKey_34 : decode cX3_aboutKey 34 = .ok (.aload_n 0, 1) := by decide +kernel
theorem dX3_aboutKey_35 : decode cX3_aboutKey 35 = .ok (.iload_n 1, 1) := by decide +kernel
theorem dX3_aboutKey_36 : decode cX3_aboutKey 36 = .ok (.iconst 5, 1) := by decide +kernel
theorem dX3_aboutKey_37 : decode cX3_aboutKey 37 = .ok (.invokevirtual 87, 3) := by decide +kernel
theorem dX3_aboutKey_40 : decode cX3_aboutKey 40 = .ok (.ireturn, 1) := by decide +kernel
theorem dX3_aboutKey_41 : decode cX3_aboutKey 41 = .ok (.aload_n 0, 1) := by decide +kernel
theorem dX3_aboutKey_42 : decode cX3_aboutKey 42 = .ok (.iload_n 1, 1) := by decide +kernel
theorem dX3_aboutKey_43 : decode cX3_aboutKey 43 = .ok (.iload_n 2, 1) := by decide +kernel
theorem dX3_aboutKey_44 : decode cX3_aboutKey 44 = .ok (.invokevirtual 87, 3) := by decide +kernel
theorem dX3_aboutKey_47 : decode cX3_aboutKey 47 = .ok (.ireturn, 1) := by decide +kernel
