theorem dX3_init_0 : decode cX3_init 0 = .ok (.aload_n 0, 1) := by decide +kernel
theorem dX3_init_1 : decode cX3_init 1 = .ok (.invokespecial 3, 3) := by decide +kernel
theorem dX3_init_4 : decode cX3_init 4 = .ok (.aload_n 0, 1) := by decide +kernel
theorem dX3_init_5 : decode cX3_init 5 = .ok (.new 9, 3) := by decide +kernel
theorem dX3_init_8 : decode cX3_init 8 = .ok (.dup, 1) := by decide +kernel
theorem dX3_init_9 : decode cX3_init 9 = .ok (.invokespecial 11, 3) := by decide +kernel
theorem dX3_init_12 : decode cX3_init 12 = .ok (.putfield 12, 3) := by decide +kernel
theorem dX3_init_15 : decode cX3_init 15 = .ok (.aload_n 0, 1) := by decide +kernel
theorem dX3_init_16 : decode cX3_init 16 = .ok (.iconst 4, 1) := by decide +kernel
theorem dX3_init_17 : decode cX3_init 17 = .ok (.anewarray 9, 3) := by decide +kernel
theorem dX3_init_20 : decode cX3_init 20 = .ok (.putfield 16, 3) := by decide +kernel
theorem dX3_init_23 : decode cX3_init 23 = .ok (.iconst 0, 1) := by decide +kernel
theorem dX3_init_24 : decode cX3_init 24 = .ok (.istore_n 1, 1) := by decide +kernel
theorem dX3_init_25 : decode cX3_init 25 = .ok (.iload_n 1, 1) := by decide +kernel
theorem dX3_init_26 : decode cX3_init 26 = .ok (.iconst 4, 1) := by decide +kernel
theorem dX3_init_27 : decode cX3_init 27 = .ok (.if_icmp .ge 22, 3) := by decide +kernel
theorem dX3_init_30 : decode cX3_init 30 = .ok (.aload_n 0, 1) := by decide +kernel
theorem dX3_init_31 : decode cX3_init 31 = .ok (.getfield 16, 3) := by decide +kernel
theorem dX3_init_34 : decode cX3_init 34 = .ok (.iload_n 1, 1) := by decide +kernel
theorem dX3_init_35 : decode cX3_init 35 = .ok (.new 9, 3) := by decide +kernel
theorem dX3_init_38 : decode cX3_init 38 = .ok (.dup, 1) := by decide +kernel
theorem dX3_init_39 : decode cX3_init 39 = .ok (.invokespecial 11, 3) := by decide +kernel
theorem dX3_init_42 : decode cX3_init 42 = .ok (.aastore, 1) := by decide +kernel
theorem dX3_init_43 : decode cX3_init 43 = .ok (.iinc 1 1, 3) := by decide +kernel
theorem dX3_init_46 : decode cX3_init 46 = .ok (.goto (-21), 3) := by decide +kernel
theorem dX3_init_49 : decode cX3_init 49 = .ok (.aload_n 0, 1) := by decide +kernel
theorem dX3_init_50 : decode cX3_init 50 = .ok (.iconst 0, 1) := by decide +kernel
theorem dX3_init_51 : decode cX3_init 51 = .ok (.putfield 20, 3) := by decide +kernel
theorem dX3_init_54 : decode cX3_init 54 = .ok (.aload_n 0, 1) := by decide +kernel
theorem dX3_init_55 : decode cX3_init 55 = .ok (.new 24, 3) := by decide +kernel
theorem dX3_init_58 : decode cX3_init 58 = .ok (.dup, 1) := by decide +kernel
theorem dX3_init_59 : decode cX3_init 59 = .ok (.invokespecial 26, 3) := by decide +kernel
theorem dX3_init_62 : decode cX3_init 62 = .ok (.putfield 27, 3) := by decide +kernel
theorem dX3_init_65 : decode cX3_init 65 = .ok (.aload_n 0, 1) := by decide +kernel
theorem dX3_init_66 : decode cX3_init 66 = .ok (.new 31, 3) := by decide +kernel
theorem dX3_init_69 : decode cX3_init 69 = .ok (.dup, 1) := by decide +kernel
theorem dX3_init_70 : decode cX3_init 70 = .ok (.invokespecial 33, 3) := by decide +kernel
theorem dX3_init_73 : decode cX3_init 73 = .ok (.putfield 34, 3) := by decide +kernel
theorem dX3_init_76 : decode cX3_init 76 = .ok (.aload_n 0, 1) := by decide +kernel
theorem dX3_init_77 : decode cX3_init 77 = .ok (.sipush 1000, 3) := by decide +kernel
theorem dX3_init_80 : decode cX3_init 80 = .ok (.newarray .int, 2) := by decide +kernel
theorem dX3_init_82 : decode cX3_init 82 = .ok (.putfield 38, 3) := by decide +kernel
theorem dX3_init_85 : decode cX3_init 85 = .ok (.aload_n 0, 1) := by decide +kernel
theorem dX3_init_86 : decode cX3_init 86 = .ok (.sipush 1000, 3) := by decide +kernel
theorem dX3_init_89 : decode cX3_init 89 = .ok (.newarray .int, 2) := by decide +kernel
theorem dX3_init_91 : decode cX3_init 91 = .ok (.putfield 42, 3) := by decide +kernel
theorem dX3_init_94 : decode cX3_init 94 = .ok (.return_, 1) := by decide +kernel
set_option maxRecDepth 20000 in
theorem ggX3_addKey_X3_curveNumbered : GoodIn wsX3_addKey wsX3_curveNumbered := goodIn_ca (goodIn_r _ [7, 8, 9, 10, 61, 62, 63, 64, 65, 66, 67, 68] (by decide +kernel) (by decide +kernel)) (goodIn_sub (fun _ h => List.mem_cons_of_mem _ (List.mem_append_left _ (List.mem_append_right _ h))) (by decide +kernel))
set_option maxRecDepth 20000 in
theorem gX3_addKey_X3_curveNumbered : GoodIn wsX3_addKey (wsV RX3 45 RX3 yX3_curveNumbered wsX3_curveNumbered) := goodIn_app (goodIn_of _ (by decide +kernel)) ggX3_addKey_X3_curveNumbered
set_option maxRecDepth 20000 in
theorem ggX3_addKey_X3_requireRange : GoodIn wsX3_addKey wsX3_requireRange := goodIn_ca (goodIn_r _ [13, 14, 15] (by decide +kernel) (by decide +kernel)) (goodIn_sub (fun _ h => List.mem_cons_of_mem _ (List.mem_append_right _ h)) (by decide +kernel))
set_option maxRecDepth 20000 in
theorem gX3_addKey_X3_requireRange : GoodIn wsX3_addKey (va_wsS RX3 49 yX3_requireRange wsX3_requireRange) := goodIn_app (goodIn_of _ (by decide +kernel)) ggX3_addKey_X3_requireRange
set_option maxRecDepth 20000 in
theorem ggX3_addKey_X0_numberAtFrame : GoodIn wsX3_addKey wsX0_numberAtFrame := goodIn_r _ [19, 20, 21, 22, 17, 23, 24, 25, 26, 27, 28, 29, 59, 60] (by decide +kernel) (by decide +kernel)
set_option maxRecDepth 20000 in
theorem gX3_addKey_X0_numberAtFrame_n63 : GoodIn wsX3_addKey (wsX0_numberAtFrame) := ggX3_addKey_X0_numberAtFrame
set_option maxRecDepth 20000 in
theorem ggX3_addKey_X3_saveState : GoodIn wsX3_addKey wsX3_saveState := goodIn_r _ [33, 34, 35, 10, 36, 37, 38, 6, 39, 40, 41, 42, 43, 44, 45, 17, 46, 47, 24, 29, 48, 49, 50, 51, 61, 62, 63, 64, 65, 66, 67, 68, 59, 60] (by decide +kernel) (by decide +kernel)
set_option maxRecDepth 20000 in
theorem gX3_addKey_X3_saveState : GoodIn wsX3_addKey (wsV RX3 69 RX3 yX3_saveState wsX3_saveState) := goodIn_app (goodIn_of _ (by decide +kernel)) ggX3_addKey_X3_saveState
set_option maxRecDepth 20000 in
theorem ggX3_addKey_X0_insert : GoodIn wsX3_addKey wsX0_insert := goodIn_r _ [54, 24, 29, 48, 49, 50, 51, 20, 21, 22, 17, 23, 25, 26, 27, 28, 55, 56, 57, 58, 59, 60] (by decide +kernel) (by decide +kernel)
set_option maxRecDepth 20000 in
theorem gX3_addKey_X0_insert_n72 : GoodIn wsX3_addKey (wsX0_insert) := ggX3_addKey_X0_insert
theorem dX3_addKey_0 : decode cX3_addKey 0 = .ok (.aload_n 0, 1) := by decide +kernel
theorem dX3_addKey_1 : decode cX3_addKey 1 = .ok (.iload_n 1, 1) := by decide +kernel
theorem dX3_addKey_2 : decode cX3_addKey 2 = .ok (.invokevirtual 45, 3) := by decide +kernel
theorem dX3_addKey_5 : decode cX3_addKey 5 = .ok (.astore 5, 2) := by decide +kernel
theorem dX3_addKey_7 : decode cX3_addKey 7 = .ok (.iload_n 2, 1) := by decide +kernel
theorem dX3_addKey_8 : decode cX3_addKey 8 = .ok (.iconst 0, 1) := by decide +kernel
theorem dX3_addKey_9 : decode cX3_addKey 9 = .ok (.sipush 999, 3) := by decide +kernel
theorem dX3_addKey_12 : decode cX3_addKey 12 = .ok (.invokestatic 49, 3) := by decide +kernel
theorem dX3_addKey_15 : decode cX3_addKey 15 = .ok (.iload_n 3, 1) := by decide +kernel
theorem dX3_addKey_16 : decode cX3_addKey 16 = .ok (.sipush (-9999), 3) := by decide +kernel
theorem dX3_addKey_19 : decode cX3_addKey 19 = .ok (.sipush 9999, 3) := by decide +kernel
theorem dX3_addKey_22 : decode cX3_addKey 22 = .ok (.invokestatic 49, 3) := by decide +kernel
theorem dX3_addKey_25 : decode cX3_addKey 25 = .ok (.iload 4, 2) := by decide +kernel
theorem dX3_addKey_27 : decode cX3_addKey 27 = .ok (.iconst 0, 1) := by decide +kernel
theorem dX3_addKey_28 : decode cX3_addKey 28 = .ok (.iconst 5, 1) := by decide +kernel
theorem dX3_addKey_29 : decode cX3_addKey 29 = .ok (.invokestatic 49, 3) := by decide +kernel
theorem dX3_addKey_32 : decode cX3_addKey 32 = .ok (.aload 5, 2) := by decide +kernel
theorem dX3_addKey_34 : decode cX3_addKey 34 = .ok (.getfield 53, 3) := by decide +kernel
theorem dX3_addKey_37 : decode cX3_addKey 37 = .ok (.bipush 16, 2) := by decide +kernel
theorem dX3_addKey_39 : decode cX3_addKey 39 = .ok (.if_icmp .lt 13, 3) := by decide +kernel
theorem dX3_addKey_42 : decode cX3_addKey 42 = .ok (.new 56, 3) := by decide +kernel
theorem dX3_addKey_45 : decode cX3_addKey 45 = .ok (.dup, 1) := by decide +kernel
theorem dX3_addKey_46 : decode cX3_addKey 46 = .ok (.ldc 58, 2) := by decide +kernel
theorem dX3_addKey_48 : decode cX3_addKey 48 = .ok (.invokespecial 60, 3) := by decide +kernel
theorem dX3_addKey_51 : decode cX3_addKey 51 = .ok (.athrow, 1) := by decide +kernel
theorem dX3_addKey_52 : decode cX3_addKey 52 = .ok (.aload 5, 2) := by decide +kernel
theorem dX3_addKey_54 : decode cX3_addKey 54 = .ok (.iload_n 2, 1) := by decide +kernel
theorem dX3_addKey_55 : decode cX3_addKey 55 = .ok (.invokevirtual 63, 3) := by decide +kernel
theorem dX3_addKey_58 : decode cX3_addKey 58 = .ok (.iconst (-1), 1) := by decide +kernel
theorem dX3_addKey_59 : decode cX3_addKey 59 = .ok (.if_icmp .eq 13, 3) := by decide +kernel
theorem dX3_addKey_62 : decode cX3_addKey 62 = .ok (.new 56, 3) := by decide +kernel
theorem dX3_addKey_65 : decode cX3_addKey 65 = .ok (.dup, 1) := by decide +kernel
theorem dX3_addKey_66 : decode cX3_addKey 66 = .ok (.ldc 67, 2) := by decide +kernel
theorem dX3_addKey_68 : decode cX3_addKey 68 = .ok (.invokespecial 60, 3) := by decide +kernel
theorem dX3_addKey_71 : decode cX3_addKey 71 = .ok (.athrow, 1) := by decide +kernel
theorem dX3_addKey_72 : decode cX3_addKey 72 = .ok (.aload_n 0, 1) := by decide +kernel
theorem dX3_addKey_73 : decode cX3_addKey 73 = .ok (.invokevirtual 69, 3) := by decide +kernel
theorem dX3_addKey_76 : decode cX3_addKey 76 = .ok (.aload 5, 2) := by decide +kernel
theorem dX3_addKey_78 : decode cX3_addKey 78 = .ok (.iload_n 2, 1) := by decide +kernel
theorem dX3_addKey_79 : decode cX3_addKey 79 = .ok (.iload_n 3, 1) := by decide +kernel
theorem dX3_addKey_80 : decode cX3_addKey 80 = .ok (.iload 4, 2) := by decide +kernel
theorem dX3_addKey_82 : decode cX3_addKey 82 = .ok (.iconst 0, 1) := by decide +kernel
theorem dX3_addKey_83 : decode cX3_addKey 83 = .ok (.iconst 0, 1) := by decide +kernel
theorem dX3_addKey_84 : decode cX3_addKey 84 = .ok (.iconst 0, 1) := by decide +kernel
theorem dX3_addKey_85 : decode cX3_addKey 85 = .ok (.invokevirtual 72, 3) := by decide +kernel
theorem dX3_addKey_88 : decode cX3_addKey 88 = .ok (.ireturn, 1) := by decide +kernel
set_option maxRecDepth 20000 in
theorem ggX3_removeKey_X3_curveNumbered : GoodIn wsX3_removeKey wsX3_curveNumbered := goodIn_ca (goodIn_r _ [5, 6, 7, 8, 54, 55, 56, 57, 58, 59, 60, 61] (by decide +kernel) (by decide +kernel)) (goodIn_sub (fun _ h => List.mem_cons_of_mem _ (List.mem_append_left _ (List.mem_append_right _ h))) (by decide +kernel))
set_option maxRecDepth 20000 in
theorem gX3_removeKey_X3_curveNumbered : GoodIn wsX3_removeKey (wsV RX3 45 RX3 yX3_curveNumbered wsX3_curveNumbered) := goodIn_app (goodIn_of _ (by decide +kernel)) ggX3_removeKey_X3_curveNumbered
set_option maxRecDepth 20000 in
theorem ggX3_removeKey_X3_requireKey : GoodIn wsX3_removeKey wsX3_requireKey := goodIn_ca (goodIn_r _ [11, 6, 7, 52, 53] (by decide +kernel) (by decide +kernel)) (goodIn_sub (fun _ h => List.mem_cons_of_mem _ (List.mem_append_left _ (List.mem_append_right _ h))) (by decide +kernel))
set_option maxRecDepth 20000 in
theorem gX3_removeKey_X3_requireKey : GoodIn wsX3_removeKey (va_wsS RX3 76 yX3_requireKey wsX3_requireKey) := goodIn_app (goodIn_of _ (by decide +kernel)) ggX3_removeKey_X3_requireKey
set_option maxRecDepth 20000 in
theorem ggX3_removeKey_X3_requireUnlocked : GoodIn wsX3_removeKey wsX3_requireUnlocked := goodIn_ca (goodIn_r _ [14, 15, 16, 17, 18, 19, 20, 21, 22, 23, 24, 25, 26, 52, 53] (by decide +kernel) (by decide +kernel)) (goodIn_sub (fun _ h => List.mem_cons_of_mem _ (List.mem_append_right _ h)) (by decide +kernel))
set_option maxRecDepth 20000 in
theorem gX3_removeKey_X3_requireUnlocked : GoodIn wsX3_removeKey (va_wsS RX3 80 yX3_requireUnlocked wsX3_requireUnlocked) := goodIn_app (goodIn_of _ (by decide +kernel)) ggX3_removeKey_X3_requireUnlocked
set_option maxRecDepth 20000 in
theorem ggX3_removeKey_X3_saveState : GoodIn wsX3_removeKey wsX3_saveState := goodIn_r _ [30, 31, 32, 8, 33, 34, 35, 4, 36, 37, 38, 39, 40, 41, 42, 18, 43, 44, 25, 26, 45, 46, 47, 48, 54, 55, 56, 57, 58, 59, 60, 61, 52, 53] (by decide +kernel) (by decide +kernel)
set_option maxRecDepth 20000 in
theorem gX3_removeKey_X3_saveState : GoodIn wsX3_removeKey (wsV RX3 69 RX3 yX3_saveState wsX3_saveState) := goodIn_app (goodIn_of _ (by decide +kernel)) ggX3_removeKey_X3_saveState
set_option maxRecDepth 20000 in
theorem ggX3_removeKey_X0_takeOut : GoodIn wsX3_removeKey wsX0_takeOut := goodIn_r _ [51, 25, 26, 45, 46, 47, 48, 52, 53] (by decide +kernel) (by decide +kernel)
set_option maxRecDepth 20000 in
theorem gX3_removeKey_X0_takeOut_n83 : GoodIn wsX3_removeKey (wsX0_takeOut) := ggX3_removeKey_X0_takeOut
theorem dX3_removeKey_0 : decode cX3_removeKey 0 = .ok (.aload_n 0, 1) := by decide +kernel
theorem dX3_removeKey_1 : decode cX3_removeKey 1 = .ok (.iload_n 1, 1) := by decide +kernel
theorem dX3_removeKey_2 : decode cX3_removeKey 2 = .ok (.invokevirtual 45, 3) := by decide +kernel
theorem dX3_removeKey_5 : decode cX3_removeKey 5 = .ok (.astore_n 3, 1) := by decide +kernel
theorem dX3_removeKey_6 : decode cX3_removeKey 6 = .ok (.aload_n 3, 1) := by decide +kernel
theorem dX3_removeKey_7 : decode cX3_removeKey 7 = .ok (.iload_n 2, 1) := by decide +kernel
theorem dX3_removeKey_8 : decode cX3_removeKey 8 = .ok (.invokestatic 76, 3) := by decide +kernel
theorem dX3_removeKey_11 : decode cX3_removeKey 11 = .ok (.aload_n 3, 1) := by decide +kernel
theorem dX3_removeKey_12 : decode cX3_removeKey 12 = .ok (.iload_n 2, 1) := by decide +kernel
theorem dX3_removeKey_13 : decode cX3_removeKey 13 = .ok (.invokestatic 80, 3) := by decide +kernel
theorem dX3_removeKey_16 : decode cX3_removeKey 16 = .ok (.aload_n 0, 1) := by decide +kernel
theorem dX3_removeKey_17 : decode cX3_removeKey 17 = .ok (.invokevirtual 69, 3) := by decide +kernel
theorem dX3_removeKey_20 : decode cX3_removeKey 20 = .ok (.aload_n 3, 1) := by decide +kernel
theorem dX3_removeKey_21 : decode cX3_removeKey 21 = .ok (.iload_n 2, 1) := by decide +kernel
theorem dX3_removeKey_22 : decode cX3_removeKey 22 = .ok (.invokevirtual 83, 3) := by decide +kernel
theorem dX3_removeKey_25 : decode cX3_removeKey 25 = .ok (.aload_n 3, 1) := by decide +kernel
theorem dX3_removeKey_26 : decode cX3_removeKey 26 = .ok (.getfield 53, 3) := by decide +kernel
theorem dX3_removeKey_29 : decode cX3_removeKey 29 = .ok (.ireturn, 1) := by decide +kernel
set_option maxRecDepth 20000 in
theorem ggX3_setKey_X3_curveNumbered : GoodIn wsX3_setKey wsX3_curveNumbered := goodIn_ca (goodIn_r _ [5, 6, 7, 8, 57, 58, 59, 60, 61, 62, 63, 64] (by decide +kernel) (by decide +kernel)) (goodIn_sub (fun _ h => List.mem_cons_of_mem _ (List.mem_append_left _ (List.mem_append_left _ (List.mem_append_right _ h)))) (by decide +kernel))
set_option maxRecDepth 20000 in
theorem gX3_setKey_X3_curveNumbered : GoodIn wsX3_setKey (wsV RX3 45 RX3 yX3_curveNumbered wsX3_curveNumbered) := goodIn_app (goodIn_of _ (by decide +kernel)) ggX3_setKey_X3_curveNumbered
set_option maxRecDepth 20000 in
theorem ggX3_setKey_X3_requireKey : GoodIn wsX3_setKey wsX3_requireKey := goodIn_ca (goodIn_r _ [11, 6, 7, 65, 66] (by decide +kernel) (by decide +kernel)) (goodIn_sub (fun _ h => List.mem_cons_of_mem _ (List.mem_append_left _ (List.mem_append_left _ (List.mem_append_right _ h)))) (by decide +kernel))
set_option maxRecDepth 20000 in
theorem gX3_setKey_X3_requireKey : GoodIn wsX3_setKey (va_wsS RX3 76 yX3_requireKey wsX3_requireKey) := goodIn_app (goodIn_of _ (by decide +kernel)) ggX3_setKey_X3_requireKey
set_option maxRecDepth 20000 in
theorem ggX3_setKey_X3_requireRange : GoodIn wsX3_setKey wsX3_requireRange := goodIn_ca (goodIn_r _ [14, 15, 16] (by decide +kernel) (by decide +kernel)) (goodIn_sub (fun _ h => List.mem_cons_of_mem _ (List.mem_append_left _ (List.mem_append_right _ h))) (by decide +kernel))
set_option maxRecDepth 20000 in
theorem gX3_setKey_X3_requireRange : GoodIn wsX3_setKey (va_wsS RX3 49 yX3_requireRange wsX3_requireRange) := goodIn_app (goodIn_of _ (by decide +kernel)) ggX3_setKey_X3_requireRange
set_option maxRecDepth 20000 in
theorem ggX3_setKey_X3_requireUnlocked : GoodIn wsX3_setKey wsX3_requireUnlocked := goodIn_ca (goodIn_r _ [19, 20, 21, 22, 23, 24, 25, 26, 27, 28, 29, 30, 31, 65, 66] (by decide +kernel) (by decide +kernel)) (goodIn_sub (fun _ h => List.mem_cons_of_mem _ (List.mem_append_right _ h)) (by decide +kernel))
set_option maxRecDepth 20000 in
theorem gX3_setKey_X3_requireUnlocked : GoodIn wsX3_setKey (va_wsS RX3 80 yX3_requireUnlocked wsX3_requireUnlocked) := goodIn_app (goodIn_of _ (by decide +kernel)) ggX3_setKey_X3_requireUnlocked
set_option maxRecDepth 20000 in
theorem ggX3_setKey_X3_saveState : GoodIn wsX3_setKey wsX3_saveState := goodIn_r _ [35, 36, 37, 8, 38, 39, 40, 4, 41, 42, 43, 44, 45, 46, 47, 23, 48, 49, 30, 31, 50, 51, 52, 53, 57, 58, 59, 60, 61, 62, 63, 64, 65, 66] (by decide +kernel) (by decide +kernel)
set_option maxRecDepth 20000 in
theorem gX3_setKey_X3_saveState : GoodIn wsX3_setKey (wsV RX3 69 RX3 yX3_saveState wsX3_saveState) := goodIn_app (goodIn_of _ (by decide +kernel)) ggX3_setKey_X3_saveState
set_option maxRecDepth 20000 in
theorem ggX3_setKey_X0_cell : GoodIn wsX3_setKey wsX0_cell := goodIn_r _ [29, 30, 31, 65, 66] (by decide +kernel) (by decide +kernel)
set_option maxRecDepth 20000 in
theorem gX3_setKey_X0_cell_n87 : GoodIn wsX3_setKey (wsX0_cell) := ggX3_setKey_X0_cell
set_option maxRecDepth 20000 in
theorem ggX3_setKey_X0_put : GoodIn wsX3_setKey wsX0_put := goodIn_r _ [56, 30, 31, 65, 66] (by decide +kernel) (by decide +kernel)
set_option maxRecDepth 20000 in
theorem gX3_setKey_X0_put_n91 : GoodIn wsX3_setKey (wsX0_put) := ggX3_setKey_X0_put
theorem dX3_setKey_0 : decode cX3_setKey 0 = .ok (.aload_n 0, 1) := by decide +kernel
theorem dX3_setKey_1 : decode cX3_setKey 1 = .ok (.iload_n 1, 1) := by decide +kernel
theorem dX3_setKey_2 : decode cX3_setKey 2 = .ok (.invokevirtual 45, 3) := by decide +kernel
theorem dX3_setKey_5 : decode cX3_setKey 5 = .ok (.astore 5, 2) := by decide +kernel
theorem dX3_setKey_7 : decode cX3_setKey 7 = .ok (.aload 5, 2) := by decide +kernel
theorem dX3_setKey_9 : decode cX3_setKey 9 = .ok (.iload_n 2, 1) := by decide +kernel
theorem dX3_setKey_10 : decode cX3_setKey 10 = .ok (.invokestatic 76, 3) := by decide +kernel
theorem dX3_setKey_13 : decode cX3_setKey 13 = .ok (.iload_n 3, 1) := by decide +kernel
theorem dX3_setKey_14 : decode cX3_setKey 14 = .ok (.sipush (-9999), 3) := by decide +kernel
theorem dX3_setKey_17 : decode cX3_setKey 17 = .ok (.sipush 9999, 3) := by decide +kernel
theorem dX3_setKey_20 : decode cX3_setKey 20 = .ok (.invokestatic 49, 3) := by decide +kernel
theorem dX3_setKey_23 : decode cX3_setKey 23 = .ok (.iload 4, 2) := by decide +kernel
theorem dX3_setKey_25 : decode cX3_setKey 25 = .ok (.iconst 0, 1) := by decide +kernel
theorem dX3_setKey_26 : decode cX3_setKey 26 = .ok (.iconst 5, 1) := by decide +kernel
theorem dX3_setKey_27 : decode cX3_setKey 27 = .ok (.invokestatic 49, 3) := by decide +kernel
theorem dX3_setKey_30 : decode cX3_setKey 30 = .ok (.aload 5, 2) := by decide +kernel
theorem dX3_setKey_32 : decode cX3_setKey 32 = .ok (.iload_n 2, 1) := by decide +kernel
theorem dX3_setKey_33 : decode cX3_setKey 33 = .ok (.invokestatic 80, 3) := by decide +kernel
theorem dX3_setKey_36 : decode cX3_setKey 36 = .ok (.aload_n 0, 1) := by decide +kernel
theorem dX3_setKey_37 : decode cX3_setKey 37 = .ok (.invokevirtual 69, 3) := by decide +kernel
theorem dX3_setKey_40 : decode cX3_setKey 40 = .ok (.aload 5, 2) := by decide +kernel
theorem dX3_setKey_42 : decode cX3_setKey 42 = .ok (.iload_n 2, 1) := by decide +kernel
theorem dX3_setKey_43 : decode cX3_setKey 43 = .ok (.iconst 1, 1) := by decide +kernel
theorem dX3_setKey_44 : decode cX3_setKey 44 = .ok (.invokevirtual 87, 3) := by decide +kernel
theorem dX3_setKey_47 : decode cX3_setKey 47 = .ok (.istore 6, 2) := by decide +kernel
theorem dX3_setKey_49 : decode cX3_setKey 49 = .ok (.aload 5, 2) := by decide +kernel
theorem dX3_setKey_51 : decode cX3_setKey 51 = .ok (.iload_n 2, 1) := by decide +kernel
theorem dX3_setKey_52 : decode cX3_setKey 52 = .ok (.iconst 1, 1) := by decide +kernel
theorem dX3_setKey_53 : decode cX3_setKey 53 = .ok (.iload_n 3, 1) := by decide +kernel
theorem dX3_setKey_54 : decode cX3_setKey 54 = .ok (.invokevirtual 91, 3) := by decide +kernel
theorem dX3_setKey_57 : decode cX3_setKey 57 = .ok (.aload 5, 2) := by decide +kernel
theorem dX3_setKey_59 : decode cX3_setKey 59 = .ok (.iload_n 2, 1) := by decide +kernel
theorem dX3_setKey_60 : decode cX3_setKey 60 = .ok (.iconst 2, 1) := by decide +kernel
theorem dX3_setKey_61 : decode cX3_setKey 61 = .ok (.iload 4, 2) := by decide +kernel
theorem dX3_setKey_63 : decode cX3_setKey 63 = .ok (.invokevirtual 91, 3) := by decide +kernel
theorem dX3_setKey_66 : decode cX3_setKey 66 = .ok (.iload 6, 2) := by decide +kernel
theorem dX3_setKey_68 : decode cX3_setKey 68 = .ok (.ireturn, 1) := by decide +kernel
set_option maxRecDepth 20000 in
theorem ggX3_moveKey_X3_curveNumbered : GoodIn wsX3_moveKey wsX3_curveNumbered := goodIn_ca (goodIn_r _ [7, 8, 9, 10, 76, 77, 78, 79, 80, 81, 82, 83] (by decide +kernel) (by decide +kernel)) (goodIn_sub (fun _ h => List.mem_cons_of_mem _ (List.mem_append_left _ (List.mem_append_right _ h))) (by decide +kernel))
set_option maxRecDepth 20000 in
theorem gX3_moveKey_X3_curveNumbered : GoodIn wsX3_moveKey (wsV RX3 45 RX3 yX3_curveNumbered wsX3_curveNumbered) := goodIn_app (goodIn_of _ (by decide +kernel)) ggX3_moveKey_X3_curveNumbered
set_option maxRecDepth 20000 in
theorem ggX3_moveKey_X3_requireKey : GoodIn wsX3_moveKey wsX3_requireKey := goodIn_ca (goodIn_r _ [13, 8, 9, 84, 85] (by decide +kernel) (by decide +kernel)) (goodIn_sub (fun _ h => List.mem_cons_of_mem _ (List.mem_append_left _ (List.mem_append_right _ h))) (by decide +kernel))
set_option maxRecDepth 20000 in
theorem gX3_moveKey_X3_requireKey : GoodIn wsX3_moveKey (va_wsS RX3 76 yX3_requireKey wsX3_requireKey) := goodIn_app (goodIn_of _ (by decide +kernel)) ggX3_moveKey_X3_requireKey
set_option maxRecDepth 20000 in
theorem ggX3_moveKey_X3_requireRange : GoodIn wsX3_moveKey wsX3_requireRange := goodIn_ca (goodIn_r _ [16, 17, 18] (by decide +kernel) (by decide +kernel)) (goodIn_sub (fun _ h => List.mem_cons_of_mem _ (List.mem_append_right _ h)) (by decide +kernel))
set_option maxRecDepth 20000 in
theorem gX3_moveKey_X3_requireRange : GoodIn wsX3_moveKey (va_wsS RX3 49 yX3_requireRange wsX3_requireRange) := goodIn_app (goodIn_of _ (by decide +kernel)) ggX3_moveKey_X3_requireRange
set_option maxRecDepth 20000 in
theorem ggX3_moveKey_X3_requireUnlocked : GoodIn wsX3_moveKey wsX3_requireUnlocked := goodIn_ca (goodIn_r _ [21, 1, 2, 22, 23, 24, 25, 26, 27, 28, 29, 30, 31, 84, 85] (by decide +kernel) (by decide +kernel)) (goodIn_sub (fun _ h => List.mem_cons_of_mem _ (List.mem_append_left _ (List.mem_append_left _ (List.mem_append_right _ h)))) (by decide +kernel))
set_option maxRecDepth 20000 in
theorem gX3_moveKey_X3_requireUnlocked : GoodIn wsX3_moveKey (va_wsS RX3 80 yX3_requireUnlocked wsX3_requireUnlocked) := goodIn_app (goodIn_of _ (by decide +kernel)) ggX3_moveKey_X3_requireUnlocked
set_option maxRecDepth 20000 in
theorem ggX3_moveKey_X0_numberAtFrame : GoodIn wsX3_moveKey wsX0_numberAtFrame := goodIn_r _ [34, 35, 36, 37, 23, 38, 30, 26, 27, 28, 29, 31, 84, 85] (by decide +kernel) (by decide +kernel)
set_option maxRecDepth 20000 in
theorem gX3_moveKey_X0_numberAtFrame_n63 : GoodIn wsX3_moveKey (wsX0_numberAtFrame) := ggX3_moveKey_X0_numberAtFrame
set_option maxRecDepth 20000 in
theorem ggX3_moveKey_X3_saveState : GoodIn wsX3_moveKey wsX3_saveState := goodIn_r _ [42, 43, 44, 10, 45, 46, 47, 6, 48, 49, 50, 51, 52, 53, 54, 23, 55, 56, 30, 31, 57, 58, 59, 60, 76, 77, 78, 79, 80, 81, 82, 83, 84, 85] (by decide +kernel) (by decide +kernel)
set_option maxRecDepth 20000 in
theorem gX3_moveKey_X3_saveState : GoodIn wsX3_moveKey (wsV RX3 69 RX3 yX3_saveState wsX3_saveState) := goodIn_app (goodIn_of _ (by decide +kernel)) ggX3_moveKey_X3_saveState
set_option maxRecDepth 20000 in
theorem ggX3_moveKey_X0_moveTo : GoodIn wsX3_moveKey wsX0_moveTo := goodIn_r _ [63, 26, 27, 28, 23, 29, 30, 31, 64, 65, 66, 67, 57, 58, 59, 60, 68, 69, 70, 71, 35, 36, 37, 38, 72, 73, 74, 75, 84, 85] (by decide +kernel) (by decide +kernel)
set_option maxRecDepth 20000 in
theorem gX3_moveKey_X0_moveTo_n96 : GoodIn wsX3_moveKey (wsX0_moveTo) := ggX3_moveKey_X0_moveTo
theorem dX3_moveKey_0 : decode cX3_moveKey 0 = .ok (.aload_n 0, 1) := by decide +kernel
theorem dX3_moveKey_1 : decode cX3_moveKey 1 = .ok (.iload_n 1, 1) := by decide +kernel
theorem dX3_moveKey_2 : decode cX3_moveKey 2 = .ok (.invokevirtual 45, 3) := by decide +kernel
theorem dX3_moveKey_5 : decode cX3_moveKey 5 = .ok (.astore 4, 2) := by decide +kernel
theorem dX3_moveKey_7 : decode cX3_moveKey 7 = .ok (.aload 4, 2) := by decide +kernel
theorem dX3_moveKey_9 : decode cX3_moveKey 9 = .ok (.iload_n 2, 1) := by decide +kernel
theorem dX3_moveKey_10 : decode cX3_moveKey 10 = .ok (.invokestatic 76, 3) := by decide +kernel
theorem dX3_moveKey_13 : decode cX3_moveKey 13 = .ok (.iload_n 3, 1) := by decide +kernel
theorem dX3_moveKey_14 : decode cX3_moveKey 14 = .ok (.iconst 0, 1) := by decide +kernel
theorem dX3_moveKey_15 : decode cX3_moveKey 15 = .ok (.sipush 999, 3) := by decide +kernel
theorem dX3_moveKey_18 : decode cX3_moveKey 18 = .ok (.invokestatic 49, 3) := by decide +kernel
theorem dX3_moveKey_21 : decode cX3_moveKey 21 = .ok (.aload 4, 2) := by decide +kernel
theorem dX3_moveKey_23 : decode cX3_moveKey 23 = .ok (.iload_n 2, 1) := by decide +kernel
theorem dX3_moveKey_24 : decode cX3_moveKey 24 = .ok (.invokestatic 80, 3) := by decide +kernel
theorem dX3_moveKey_27 : decode cX3_moveKey 27 = .ok (.aload 4, 2) := by decide +kernel
theorem dX3_moveKey_29 : decode cX3_moveKey 29 = .ok (.iload_n 3, 1) := by decide +kernel
theorem dX3_moveKey_30 : decode cX3_moveKey 30 = .ok (.invokevirtual 63, 3) := by decide +kernel
theorem dX3_moveKey_33 : decode cX3_moveKey 33 = .ok (.istore 5, 2) := by decide +kernel
theorem dX3_moveKey_35 : decode cX3_moveKey 35 = .ok (.iload 5, 2) := by decide +kernel
theorem dX3_moveKey_37 : decode cX3_moveKey 37 = .ok (.iconst (-1), 1) := by decide +kernel
theorem dX3_moveKey_38 : decode cX3_moveKey 38 = .ok (.if_icmp .eq 19, 3) := by decide +kernel
theorem dX3_moveKey_41 : decode cX3_moveKey 41 = .ok (.iload 5, 2) := by decide +kernel
theorem dX3_moveKey_43 : decode cX3_moveKey 43 = .ok (.iload_n 2, 1) := by decide +kernel
theorem dX3_moveKey_44 : decode cX3_moveKey 44 = .ok (.if_icmp .eq 13, 3) := by decide +kernel
theorem dX3_moveKey_47 : decode cX3_moveKey 47 = .ok (.new 56, 3) := by decide +kernel
theorem dX3_moveKey_50 : decode cX3_moveKey 50 = .ok (.dup, 1) := by decide +kernel
theorem dX3_moveKey_51 : decode cX3_moveKey 51 = .ok (.ldc 94, 2) := by decide +kernel
theorem dX3_moveKey_53 : decode cX3_moveKey 53 = .ok (.invokespecial 60, 3) := by decide +kernel
theorem dX3_moveKey_56 : decode cX3_moveKey 56 = .ok (.athrow, 1) := by decide +kernel
theorem dX3_moveKey_57 : decode cX3_moveKey 57 = .ok (.aload_n 0, 1) := by decide +kernel
theorem dX3_moveKey_58 : decode cX3_moveKey 58 = .ok (.invokevirtual 69, 3) := by decide +kernel
theorem dX3_moveKey_61 : decode cX3_moveKey 61 = .ok (.aload 4, 2) := by decide +kernel
theorem dX3_moveKey_63 : decode cX3_moveKey 63 = .ok (.iload_n 2, 1) := by decide +kernel
theorem dX3_moveKey_64 : decode cX3_moveKey 64 = .ok (.iload_n 3, 1) := by decide +kernel
theorem dX3_moveKey_65 : decode cX3_moveKey 65 = .ok (.invokevirtual 96, 3) := by decide +kernel
theorem dX3_moveKey_68 : decode cX3_moveKey 68 = .ok (.ireturn, 1) := by decide +kernel
set_option maxRecDepth 20000 in
theorem ggX3_setTangent_X3_curveNumbered : GoodIn wsX3_setTangent wsX3_curveNumbered := goodIn_ca (goodIn_r _ [7, 8, 9, 10, 65, 66, 67, 68, 69, 70, 71, 72] (by decide +kernel) (by decide +kernel)) (goodIn_sub (fun _ h => List.mem_cons_of_mem _ (List.mem_append_left _ (List.mem_append_left _ (List.mem_append_right _ h)))) (by decide +kernel))
set_option maxRecDepth 20000 in
theorem gX3_setTangent_X3_curveNumbered : GoodIn wsX3_setTangent (wsV RX3 45 RX3 yX3_curveNumbered wsX3_curveNumbered) := goodIn_app (goodIn_of _ (by decide +kernel)) ggX3_setTangent_X3_curveNumbered
set_option maxRecDepth 20000 in
theorem ggX3_setTangent_X3_requireKey : GoodIn wsX3_setTangent wsX3_requireKey := goodIn_ca (goodIn_r _ [13, 8, 9, 73, 74] (by decide +kernel) (by decide +kernel)) (goodIn_sub (fun _ h => List.mem_cons_of_mem _ (List.mem_append_left _ (List.mem_append_left _ (List.mem_append_right _ h)))) (by decide +kernel))
set_option maxRecDepth 20000 in
theorem gX3_setTangent_X3_requireKey : GoodIn wsX3_setTangent (va_wsS RX3 76 yX3_requireKey wsX3_requireKey) := goodIn_app (goodIn_of _ (by decide +kernel)) ggX3_setTangent_X3_requireKey
set_option maxRecDepth 20000 in
theorem ggX3_setTangent_X3_requireRange : GoodIn wsX3_setTangent wsX3_requireRange := goodIn_ca (goodIn_r _ [16, 17, 18] (by decide +kernel) (by decide +kernel)) (goodIn_sub (fun _ h => List.mem_cons_of_mem _ (List.mem_append_left _ (List.mem_append_right _ h))) (by decide +kernel))
set_option maxRecDepth 20000 in
theorem gX3_setTangent_X3_requireRange : GoodIn wsX3_setTangent (va_wsS RX3 49 yX3_requireRange wsX3_requireRange) := goodIn_app (goodIn_of _ (by decide +kernel)) ggX3_setTangent_X3_requireRange
set_option maxRecDepth 20000 in
theorem ggX3_setTangent_X3_requireUnlocked : GoodIn wsX3_setTangent wsX3_requireUnlocked := goodIn_ca (goodIn_r _ [21, 22, 23, 24, 25, 26, 27, 28, 29, 30, 31, 32, 33, 73, 74] (by decide +kernel) (by decide +kernel)) (goodIn_sub (fun _ h => List.mem_cons_of_mem _ (List.mem_append_right _ h)) (by decide +kernel))
set_option maxRecDepth 20000 in
theorem gX3_setTangent_X3_requireUnlocked : GoodIn wsX3_setTangent (va_wsS RX3 80 yX3_requireUnlocked wsX3_requireUnlocked) := goodIn_app (goodIn_of _ (by decide +kernel)) ggX3_setTangent_X3_requireUnlocked
set_option maxRecDepth 20000 in
theorem ggX3_setTangent_X3_saveState : GoodIn wsX3_setTangent wsX3_saveState := goodIn_r _ [37, 38, 39, 10, 40, 41, 42, 6, 43, 44, 45, 46, 47, 48, 49, 25, 50, 51, 32, 33, 52, 53, 54, 55, 65, 66, 67, 68, 69, 70, 71, 72, 73, 74] (by decide +kernel) (by decide +kernel)
set_option maxRecDepth 20000 in
theorem gX3_setTangent_X3_saveState : GoodIn wsX3_setTangent (wsV RX3 69 RX3 yX3_saveState wsX3_saveState) := goodIn_app (goodIn_of _ (by decide +kernel)) ggX3_setTangent_X3_saveState
set_option maxRecDepth 20000 in
theorem ggX3_setTangent_X0_tangentOf : GoodIn wsX3_setTangent wsX0_tangentOf := goodIn_r _ [58, 32, 28, 29, 30, 25, 31, 33, 59, 60, 61, 73, 74] (by decide +kernel) (by decide +kernel)
set_option maxRecDepth 20000 in
theorem gX3_setTangent_X0_tangentOf_n101 : GoodIn wsX3_setTangent (wsX0_tangentOf) := ggX3_setTangent_X0_tangentOf
set_option maxRecDepth 20000 in
theorem ggX3_setTangent_X0_put : GoodIn wsX3_setTangent wsX0_put := goodIn_r _ [64, 32, 33, 73, 74] (by decide +kernel) (by decide +kernel)
set_option maxRecDepth 20000 in
theorem gX3_setTangent_X0_put_n91 : GoodIn wsX3_setTangent (wsX0_put) := ggX3_setTangent_X0_put
theorem dX3_setTangent_0 : decode cX3_setTangent 0 = .ok (.aload_n 0, 1) := by decide +kernel
theorem dX3_setTangent_1 : decode cX3_setTangent 1 = .ok (.iload_n 1, 1) := by decide +kernel
theorem dX3_setTangent_2 : decode cX3_setTangent 2 = .ok (.invokevirtual 45, 3) := by decide +kernel
theorem dX3_setTangent_5 : decode cX3_setTangent 5 = .ok (.astore 5, 2) := by decide +kernel
theorem dX3_setTangent_7 : decode cX3_setTangent 7 = .ok (.aload 5, 2) := by decide +kernel
theorem dX3_setTangent_9 : decode cX3_setTangent 9 = .ok (.iload_n 2, 1) := by decide +kernel
theorem dX3_setTangent_10 : decode cX3_setTangent 10 = .ok (.invokestatic 76, 3) := by decide +kernel
theorem dX3_setTangent_13 : decode cX3_setTangent 13 = .ok (.iload_n 3, 1) := by decide +kernel
theorem dX3_setTangent_14 : decode cX3_setTangent 14 = .ok (.iconst 0, 1) := by decide +kernel
theorem dX3_setTangent_15 : decode cX3_setTangent 15 = .ok (.iconst 2, 1) := by decide +kernel
theorem dX3_setTangent_16 : decode cX3_setTangent 16 = .ok (.invokestatic 49, 3) := by decide +kernel
theorem dX3_setTangent_19 : decode cX3_setTangent 19 = .ok (.iload 4, 2) := by decide +kernel
theorem dX3_setTangent_21 : decode cX3_setTangent 21 = .ok (.ldc 99, 2) := by decide +kernel
theorem dX3_setTangent_23 : decode cX3_setTangent 23 = .ok (.ldc 100, 2) := by decide +kernel
theorem dX3_setTangent_25 : decode cX3_setTangent 25 = .ok (.invokestatic 49, 3) := by decide +kernel
theorem dX3_setTangent_28 : decode cX3_setTangent 28 = .ok (.aload 5, 2) := by decide +kernel
theorem dX3_setTangent_30 : decode cX3_setTangent 30 = .ok (.iload_n 2, 1) := by decide +kernel
theorem dX3_setTangent_31 : decode cX3_setTangent 31 = .ok (.invokestatic 80, 3) := by decide +kernel
theorem dX3_setTangent_34 : decode cX3_setTangent 34 = .ok (.aload_n 0, 1) := by decide +kernel
theorem dX3_setTangent_35 : decode cX3_setTangent 35 = .ok (.invokevirtual 69, 3) := by decide +kernel
theorem dX3_setTangent_38 : decode cX3_setTangent 38 = .ok (.aload 5, 2) := by decide +kernel
theorem dX3_setTangent_40 : decode cX3_setTangent 40 = .ok (.iload_n 2, 1) := by decide +kernel
theorem dX3_setTangent_41 : decode cX3_setTangent 41 = .ok (.invokevirtual 101, 3) := by decide +kernel
theorem dX3_setTangent_44 : decode cX3_setTangent 44 = .ok (.istore 6, 2) := by decide +kernel
theorem dX3_setTangent_46 : decode cX3_setTangent 46 = .ok (.aload 5, 2) := by decide +kernel
theorem dX3_setTangent_48 : decode cX3_setTangent 48 = .ok (.iload_n 2, 1) := by decide +kernel
theorem dX3_setTangent_49 : decode cX3_setTangent 49 = .ok (.iconst 3, 1) := by decide +kernel
theorem dX3_setTangent_50 : decode cX3_setTangent 50 = .ok (.iload_n 3, 1) := by decide +kernel
theorem dX3_setTangent_51 : decode cX3_setTangent 51 = .ok (.invokevirtual 91, 3) := by decide +kernel
theorem dX3_setTangent_54 : decode cX3_setTangent 54 = .ok (.aload 5, 2) := by decide +kernel
theorem dX3_setTangent_56 : decode cX3_setTangent 56 = .ok (.iload_n 2, 1) := by decide +kernel
theorem dX3_setTangent_57 : decode cX3_setTangent 57 = .ok (.iconst 4, 1) := by decide +kernel
theorem dX3_setTangent_58 : decode cX3_setTangent 58 = .ok (.iload 4, 2) := by decide +kernel
theorem dX3_setTangent_60 : decode cX3_setTangent 60 = .ok (.invokevirtual 91, 3) := by decide +kernel
theorem dX3_setTangent_63 : decode cX3_setTangent 63 = .ok (.iload 6, 2) := by decide +kernel
theorem dX3_setTangent_65 : decode cX3_setTangent 65 = .ok (.ireturn, 1) := by decide +kernel
set_option maxRecDepth 20000 in
theorem ggX3_lock_X3_curveNumbered : GoodIn wsX3_lock wsX3_curveNumbered := goodIn_ca (goodIn_r _ [5, 6, 7, 8, 43, 44, 45, 46, 47, 48, 49, 50] (by decide +kernel) (by decide +kernel)) (goodIn_sub (fun _ h => List.mem_cons_of_mem _ (List.mem_append_right _ h)) (by decide +kernel))
set_option maxRecDepth 20000 in
theorem gX3_lock_X3_curveNumbered : GoodIn wsX3_lock (wsV RX3 45 RX3 yX3_curveNumbered wsX3_curveNumbered) := goodIn_app (goodIn_of _ (by decide +kernel)) ggX3_lock_X3_curveNumbered
set_option maxRecDepth 20000 in
theorem ggX3_lock_X3_requireKey : GoodIn wsX3_lock wsX3_requireKey := goodIn_ca (goodIn_r _ [11, 6, 7, 51, 52] (by decide +kernel) (by decide +kernel)) (goodIn_sub (fun _ h => List.mem_cons_of_mem _ (List.mem_append_right _ h)) (by decide +kernel))
set_option maxRecDepth 20000 in
theorem gX3_lock_X3_requireKey : GoodIn wsX3_lock (va_wsS RX3 76 yX3_requireKey wsX3_requireKey) := goodIn_app (goodIn_of _ (by decide +kernel)) ggX3_lock_X3_requireKey
set_option maxRecDepth 20000 in
theorem ggX3_lock_X3_saveState : GoodIn wsX3_lock wsX3_saveState := goodIn_r _ [15, 16, 17, 8, 18, 19, 20, 4, 21, 22, 23, 24, 25, 26, 27, 28, 29, 30, 31, 32, 33, 34, 35, 36, 43, 44, 45, 46, 47, 48, 49, 50, 51, 52] (by decide +kernel) (by decide +kernel)
set_option maxRecDepth 20000 in
theorem gX3_lock_X3_saveState : GoodIn wsX3_lock (wsV RX3 69 RX3 yX3_saveState wsX3_saveState) := goodIn_app (goodIn_of _ (by decide +kernel)) ggX3_lock_X3_saveState
set_option maxRecDepth 20000 in
theorem ggX3_lock_X0_cell : GoodIn wsX3_lock wsX0_cell := goodIn_r _ [39, 31, 32, 51, 52] (by decide +kernel) (by decide +kernel)
set_option maxRecDepth 20000 in
theorem gX3_lock_X0_cell_n87 : GoodIn wsX3_lock (wsX0_cell) := ggX3_lock_X0_cell
set_option maxRecDepth 20000 in
theorem ggX3_lock_X0_put : GoodIn wsX3_lock wsX0_put := goodIn_r _ [42, 31, 32, 51, 52] (by decide +kernel) (by decide +kernel)
set_option maxRecDepth 20000 in
theorem gX3_lock_X0_put_n91 : GoodIn wsX3_lock (wsX0_put) := ggX3_lock_X0_put
theorem dX3_lock_0 : decode cX3_lock 0 = .ok (.aload_n 0, 1) := by decide +kernel
theorem dX3_lock_1 : decode cX3_lock 1 = .ok (.iload_n 1, 1) := by decide +kernel
theorem dX3_lock_2 : decode cX3_lock 2 = .ok (.invokevirtual 45, 3) := by decide +kernel
theorem dX3_lock_5 : decode cX3_lock 5 = .ok (.astore 4, 2) := by decide +kernel
theorem dX3_lock_7 : decode cX3_lock 7 = .ok (.aload 4, 2) := by decide +kernel
theorem dX3_lock_9 : decode cX3_lock 9 = .ok (.iload_n 2, 1) := by decide +kernel
theorem dX3_lock_10 : decode cX3_lock 10 = .ok (.invokestatic 76, 3) := by decide +kernel
theorem dX3_lock_13 : decode cX3_lock 13 = .ok (.aload_n 0, 1) := by decide +kernel
theorem dX3_lock_14 : decode cX3_lock 14 = .ok (.invokevirtual 69, 3) := by decide +kernel
theorem dX3_lock_17 : decode cX3_lock 17 = .ok (.aload 4, 2) := by decide +kernel
theorem dX3_lock_19 : decode cX3_lock 19 = .ok (.iload_n 2, 1) := by decide +kernel
theorem dX3_lock_20 : decode cX3_lock 20 = .ok (.iconst 5, 1) := by decide +kernel
theorem dX3_lock_21 : decode cX3_lock 21 = .ok (.invokevirtual 87, 3) := by decide +kernel
theorem dX3_lock_24 : decode cX3_lock 24 = .ok (.istore 5, 2) := by decide +kernel
theorem dX3_lock_26 : decode cX3_lock 26 = .ok (.aload 4, 2) := by decide +kernel
theorem dX3_lock_28 : decode cX3_lock 28 = .ok (.iload_n 2, 1) := by decide +kernel
theorem dX3_lock_29 : decode cX3_lock 29 = .ok (.iconst 5, 1) := by decide +kernel
theorem dX3_lock_30 : decode cX3_lock 30 = .ok (.iload_n 3, 1) := by decide +kernel
theorem dX3_lock_31 : decode cX3_lock 31 = .ok (.ifCond .eq 7, 3) := by decide +kernel
theorem dX3_lock_34 : decode cX3_lock 34 = .ok (.iconst 1, 1) := by decide +kernel
theorem dX3_lock_35 : decode cX3_lock 35 = .ok (.goto 4, 3) := by decide +kernel
theorem dX3_lock_38 : decode cX3_lock 38 = .ok (.iconst 0, 1) := by decide +kernel
theorem dX3_lock_39 : decode cX3_lock 39 = .ok (.invokevirtual 91, 3) := by decide +kernel
theorem dX3_lock_42 : decode cX3_lock 42 = .ok (.iload 5, 2) := by decide +kernel
theorem dX3_lock_44 : decode cX3_lock 44 = .ok (.ireturn, 1) := by decide +kernel
set_option maxRecDepth 20000 in
theorem ggX3_stretch_X3_curveNumbered : GoodIn wsX3_stretch wsX3_curveNumbered := goodIn_ca (goodIn_r _ [7, 8, 9, 10, 65, 66, 67, 68, 69, 70, 71, 72] (by decide +kernel) (by decide +kernel)) (goodIn_sub (fun _ h => List.mem_cons_of_mem _ (List.mem_append_left _ (List.mem_append_right _ h))) (by decide +kernel))
set_option maxRecDepth 20000 in
theorem gX3_stretch_X3_curveNumbered : GoodIn wsX3_stretch (wsV RX3 45 RX3 yX3_curveNumbered wsX3_curveNumbered) := goodIn_app (goodIn_of _ (by decide +kernel)) ggX3_stretch_X3_curveNumbered
set_option maxRecDepth 20000 in
theorem ggX3_stretch_X3_requireSpan : GoodIn wsX3_stretch wsX3_requireSpan := goodIn_ca (goodIn_r _ [13, 14, 15, 6, 16, 17, 18] (by decide +kernel) (by decide +kernel)) (goodIn_sub (fun _ h => List.mem_cons_of_mem _ (List.mem_append_right _ h)) (by decide +kernel))
set_option maxRecDepth 20000 in
theorem gX3_stretch_X3_requireSpan : GoodIn wsX3_stretch (va_wsS RX3 104 yX3_requireSpan wsX3_requireSpan) := goodIn_app (goodIn_of _ (by decide +kernel)) ggX3_stretch_X3_requireSpan
set_option maxRecDepth 20000 in
theorem ggX3_stretch_X3_requireRange : GoodIn wsX3_stretch wsX3_requireRange := goodIn_ca (goodIn_r _ [16, 17, 18] (by decide +kernel) (by decide +kernel)) (goodIn_sub (fun _ h => List.mem_cons_of_mem _ (List.mem_append_right _ h)) (by decide +kernel))
set_option maxRecDepth 20000 in
theorem gX3_stretch_X3_requireRange : GoodIn wsX3_stretch (va_wsS RX3 49 yX3_requireRange wsX3_requireRange) := goodIn_app (goodIn_of _ (by decide +kernel)) ggX3_stretch_X3_requireRange
set_option maxRecDepth 20000 in
theorem ggX3_stretch_X0_canStretch : GoodIn wsX3_stretch wsX0_canStretch := goodIn_r _ [22, 23, 24, 25, 26, 20, 27, 28, 29, 30, 31, 32, 33, 34, 35, 73, 74] (by decide +kernel) (by decide +kernel)
set_option maxRecDepth 20000 in
theorem gX3_stretch_X0_canStretch_n108 : GoodIn wsX3_stretch (wsX0_canStretch) := ggX3_stretch_X0_canStretch
set_option maxRecDepth 20000 in
theorem ggX3_stretch_X3_saveState : GoodIn wsX3_stretch wsX3_saveState := goodIn_r _ [39, 40, 41, 10, 42, 43, 44, 6, 45, 46, 47, 48, 49, 50, 51, 20, 52, 53, 23, 28, 54, 55, 56, 57, 65, 66, 67, 68, 69, 70, 71, 72, 73, 74] (by decide +kernel) (by decide +kernel)
set_option maxRecDepth 20000 in
theorem gX3_stretch_X3_saveState : GoodIn wsX3_stretch (wsV RX3 69 RX3 yX3_saveState wsX3_saveState) := goodIn_app (goodIn_of _ (by decide +kernel)) ggX3_stretch_X3_saveState
set_option maxRecDepth 20000 in
theorem ggX3_stretch_X0_stretchSpan : GoodIn wsX3_stretch wsX0_stretchSpan := goodIn_r _ [60, 23, 24, 25, 26, 20, 27, 28, 29, 30, 31, 61, 62, 63, 64, 73, 74] (by decide +kernel) (by decide +kernel)
set_option maxRecDepth 20000 in
theorem gX3_stretch_X0_stretchSpan_n114 : GoodIn wsX3_stretch (wsX0_stretchSpan) := ggX3_stretch_X0_stretchSpan
theorem dX3_stretch_0 : decode cX3_stretch 0 = .ok (.aload_n 0, 1) := by decide +kernel
theorem dX3_stretch_1 : decode cX3_stretch 1 = .ok (.iload_n 1, 1) := by decide +kernel
theorem dX3_stretch_2 : decode cX3_stretch 2 = .ok (.invokevirtual 45, 3) := by decide +kernel
theorem dX3_stretch_5 : decode cX3_stretch 5 = .ok (.astore 5, 2) := by decide +kernel
theorem dX3_stretch_7 : decode cX3_stretch 7 = .ok (.iload_n 2, 1) := by decide +kernel
theorem dX3_stretch_8 : decode cX3_stretch 8 = .ok (.iload_n 3, 1) := by decide +kernel
theorem dX3_stretch_9 : decode cX3_stretch 9 = .ok (.invokestatic 104, 3) := by decide +kernel
theorem dX3_stretch_12 : decode cX3_stretch 12 = .ok (.iload 4, 2) := by decide +kernel
theorem dX3_stretch_14 : decode cX3_stretch 14 = .ok (.bipush 10, 2) := by decide +kernel
theorem dX3_stretch_16 : decode cX3_stretch 16 = .ok (.sipush 500, 3) := by decide +kernel
theorem dX3_stretch_19 : decode cX3_stretch 19 = .ok (.invokestatic 49, 3) := by decide +kernel
theorem dX3_stretch_22 : decode cX3_stretch 22 = .ok (.aload 5, 2) := by decide +kernel
theorem dX3_stretch_24 : decode cX3_stretch 24 = .ok (.iload_n 2, 1) := by decide +kernel
theorem dX3_stretch_25 : decode cX3_stretch 25 = .ok (.iload_n 3, 1) := by decide +kernel
theorem dX3_stretch_26 : decode cX3_stretch 26 = .ok (.iload 4, 2) := by decide +kernel
theorem dX3_stretch_28 : decode cX3_stretch 28 = .ok (.invokevirtual 108, 3) := by decide +kernel
theorem dX3_stretch_31 : decode cX3_stretch 31 = .ok (.ifCond .ne 13, 3) := by decide +kernel
theorem dX3_stretch_34 : decode cX3_stretch 34 = .ok (.new 56, 3) := by decide +kernel
theorem dX3_stretch_37 : decode cX3_stretch 37 = .ok (.dup, 1) := by decide +kernel
theorem dX3_stretch_38 : decode cX3_stretch 38 = .ok (.ldc 112, 2) := by decide +kernel
theorem dX3_stretch_40 : decode cX3_stretch 40 = .ok (.invokespecial 60, 3) := by decide +kernel
theorem dX3_stretch_43 : decode cX3_stretch 43 = .ok (.athrow, 1) := by decide +kernel
theorem dX3_stretch_44 : decode cX3_stretch 44 = .ok (.aload_n 0, 1) := by decide +kernel
theorem dX3_stretch_45 : decode cX3_stretch 45 = .ok (.invokevirtual 69, 3) := by decide +kernel
theorem dX3_stretch_48 : decode cX3_stretch 48 = .ok (.aload 5, 2) := by decide +kernel
theorem dX3_stretch_50 : decode cX3_stretch 50 = .ok (.iload_n 2, 1) := by decide +kernel
theorem dX3_stretch_51 : decode cX3_stretch 51 = .ok (.iload_n 3, 1) := by decide +kernel
theorem dX3_stretch_52 : decode cX3_stretch 52 = .ok (.iload 4, 2) := by decide +kernel
theorem dX3_stretch_54 : decode cX3_stretch 54 = .ok (.invokevirtual 114, 3) := by decide +kernel
theorem dX3_stretch_57 : decode cX3_stretch 57 = .ok (.ireturn, 1) := by decide +kernel
set_option maxRecDepth 20000 in
theorem ggX3_copy_X3_curveNumbered : GoodIn wsX3_copy wsX3_curveNumbered := goodIn_ca (goodIn_r _ [7, 8, 9, 10, 71, 72, 73, 74, 75, 76, 77, 78] (by decide +kernel) (by decide +kernel)) (goodIn_sub (fun _ h => List.mem_cons_of_mem _ (List.mem_append_left _ (List.mem_append_right _ h))) (by decide +kernel))
set_option maxRecDepth 20000 in
theorem gX3_copy_X3_curveNumbered : GoodIn wsX3_copy (wsV RX3 45 RX3 yX3_curveNumbered wsX3_curveNumbered) := goodIn_app (goodIn_of _ (by decide +kernel)) ggX3_copy_X3_curveNumbered
set_option maxRecDepth 20000 in
theorem ggX3_copy_X3_requireRange : GoodIn wsX3_copy wsX3_requireRange := goodIn_ca (goodIn_r _ [13, 14, 15] (by decide +kernel) (by decide +kernel)) (goodIn_sub (fun _ h => List.mem_cons_of_mem _ (List.mem_append_right _ h)) (by decide +kernel))
set_option maxRecDepth 20000 in
theorem gX3_copy_X3_requireRange : GoodIn wsX3_copy (va_wsS RX3 49 yX3_requireRange wsX3_requireRange) := goodIn_app (goodIn_of _ (by decide +kernel)) ggX3_copy_X3_requireRange
set_option maxRecDepth 20000 in
theorem ggX3_copy_X3_requireNoLock : GoodIn wsX3_copy wsX3_requireNoLock := goodIn_ca (goodIn_r _ [18, 1, 2, 19, 20, 21, 22, 23, 24, 25, 26, 27, 28, 29, 30, 31, 32, 69, 70] (by decide +kernel) (by decide +kernel)) (goodIn_sub (fun _ h => List.mem_cons_of_mem _ (List.mem_append_left _ (List.mem_append_left _ (List.mem_append_right _ h)))) (by decide +kernel))
set_option maxRecDepth 20000 in
theorem gX3_copy_X3_requireNoLock : GoodIn wsX3_copy (va_wsS RX3 118 yX3_requireNoLock wsX3_requireNoLock) := goodIn_app (goodIn_of _ (by decide +kernel)) ggX3_copy_X3_requireNoLock
set_option maxRecDepth 20000 in
theorem ggX3_copy_X0_canRaise : GoodIn wsX3_copy wsX0_canRaise := goodIn_r _ [35, 23, 36, 37, 38, 39, 28, 29, 30, 20, 31, 32, 69, 70] (by decide +kernel) (by decide +kernel)
set_option maxRecDepth 20000 in
theorem gX3_copy_X0_canRaise_n122 : GoodIn wsX3_copy (wsX0_canRaise) := ggX3_copy_X0_canRaise
set_option maxRecDepth 20000 in
theorem ggX3_copy_X3_saveState : GoodIn wsX3_copy wsX3_saveState := goodIn_r _ [43, 44, 45, 10, 46, 47, 48, 6, 49, 50, 51, 52, 53, 54, 55, 20, 56, 57, 23, 32, 58, 59, 60, 61, 71, 72, 73, 74, 75, 76, 77, 78, 69, 70] (by decide +kernel) (by decide +kernel)
set_option maxRecDepth 20000 in
theorem gX3_copy_X3_saveState : GoodIn wsX3_copy (wsV RX3 69 RX3 yX3_saveState wsX3_saveState) := goodIn_app (goodIn_of _ (by decide +kernel)) ggX3_copy_X3_saveState
set_option maxRecDepth 20000 in
theorem ggX3_copy_X0_become : GoodIn wsX3_copy wsX0_become := goodIn_r _ [57, 23, 32, 58, 59, 60, 61, 69, 70] (by decide +kernel) (by decide +kernel)
set_option maxRecDepth 20000 in
theorem gX3_copy_X0_become_n128 : GoodIn wsX3_copy (wsX0_become) := ggX3_copy_X0_become
set_option maxRecDepth 20000 in
theorem ggX3_copy_X0_raise : GoodIn wsX3_copy wsX0_raise := goodIn_r _ [64, 23, 28, 29, 30, 20, 31, 32, 65, 66, 67, 68, 69, 70] (by decide +kernel) (by decide +kernel)
set_option maxRecDepth 20000 in
theorem gX3_copy_X0_raise_n131 : GoodIn wsX3_copy (wsX0_raise) := ggX3_copy_X0_raise
theorem dX3_copy_0 : decode cX3_copy 0 = .ok (.aload_n 0, 1) := by decide +kernel
theorem dX3_copy_1 : decode cX3_copy 1 = .ok (.iload_n 1, 1) := by decide +kernel
theorem dX3_copy_2 : decode cX3_copy 2 = .ok (.invokevirtual 45, 3) := by decide +kernel
theorem dX3_copy_5 : decode cX3_copy 5 = .ok (.astore 4, 2) := by decide +kernel
theorem dX3_copy_7 : decode cX3_copy 7 = .ok (.aload_n 0, 1) := by decide +kernel
theorem dX3_copy_8 : decode cX3_copy 8 = .ok (.iload_n 2, 1) := by decide +kernel
theorem dX3_copy_9 : decode cX3_copy 9 = .ok (.invokevirtual 45, 3) := by decide +kernel
theorem dX3_copy_12 : decode cX3_copy 12 = .ok (.astore 5, 2) := by decide +kernel
theorem dX3_copy_14 : decode cX3_copy 14 = .ok (.iload_n 3, 1) := by decide +kernel
theorem dX3_copy_15 : decode cX3_copy 15 = .ok (.sipush (-9999), 3) := by decide +kernel
theorem dX3_copy_18 : decode cX3_copy 18 = .ok (.sipush 9999, 3) := by decide +kernel
theorem dX3_copy_21 : decode cX3_copy 21 = .ok (.invokestatic 49, 3) := by decide +kernel
theorem dX3_copy_24 : decode cX3_copy 24 = .ok (.aload 4, 2) := by decide +kernel
theorem dX3_copy_26 : decode cX3_copy 26 = .ok (.invokestatic 118, 3) := by decide +kernel
theorem dX3_copy_29 : decode cX3_copy 29 = .ok (.aload 5, 2) := by decide +kernel
theorem dX3_copy_31 : decode cX3_copy 31 = .ok (.iload_n 3, 1) := by decide +kernel
theorem dX3_copy_32 : decode cX3_copy 32 = .ok (.invokevirtual 122, 3) := by decide +kernel
theorem dX3_copy_35 : decode cX3_copy 35 = .ok (.ifCond .ne 13, 3) := by decide +kernel
theorem dX3_copy_38 : decode cX3_copy 38 = .ok (.new 56, 3) := by decide +kernel
theorem dX3_copy_41 : decode cX3_copy 41 = .ok (.dup, 1) := by decide +kernel
theorem dX3_copy_42 : decode cX3_copy 42 = .ok (.ldc 126, 2) := by decide +kernel
theorem dX3_copy_44 : decode cX3_copy 44 = .ok (.invokespecial 60, 3) := by decide +kernel
theorem dX3_copy_47 : decode cX3_copy 47 = .ok (.athrow, 1) := by decide +kernel
theorem dX3_copy_48 : decode cX3_copy 48 = .ok (.aload_n 0, 1) := by decide +kernel
theorem dX3_copy_49 : decode cX3_copy 49 = .ok (.invokevirtual 69, 3) := by decide +kernel
theorem dX3_copy_52 : decode cX3_copy 52 = .ok (.aload 4, 2) := by decide +kernel
theorem dX3_copy_54 : decode cX3_copy 54 = .ok (.aload 5, 2) := by decide +kernel
theorem dX3_copy_56 : decode cX3_copy 56 = .ok (.invokevirtual 128, 3) := by decide +kernel
theorem dX3_copy_59 : decode cX3_copy 59 = .ok (.aload 4, 2) := by decide +kernel
theorem dX3_copy_61 : decode cX3_copy 61 = .ok (.iload_n 3, 1) := by decide +kernel
theorem dX3_copy_62 : decode cX3_copy 62 = .ok (.invokevirtual 131, 3) := by decide +kernel
theorem dX3_copy_65 : decode cX3_copy 65 = .ok (.aload 4, 2) := by decide +kernel
theorem dX3_copy_67 : decode cX3_copy 67 = .ok (.getfield 53, 3) := by decide +kernel
theorem dX3_copy_70 : decode cX3_copy 70 = .ok (.ireturn, 1) := by decide +kernel
set_option maxRecDepth 20000 in
theorem ggX3_reduce_X3_curveNumbered : GoodIn wsX3_reduce wsX3_curveNumbered := goodIn_ca (goodIn_r _ [5, 6, 7, 8, 106, 107, 108, 109, 110, 111, 112, 113] (by decide +kernel) (by decide +kernel)) (goodIn_sub (fun _ h => List.mem_cons_of_mem _ (List.mem_append_left _ (List.mem_append_right _ h))) (by decide +kernel))
set_option maxRecDepth 20000 in
theorem gX3_reduce_X3_curveNumbered : GoodIn wsX3_reduce (wsV RX3 45 RX3 yX3_curveNumbered wsX3_curveNumbered) := goodIn_app (goodIn_of _ (by decide +kernel)) ggX3_reduce_X3_curveNumbered
set_option maxRecDepth 20000 in
theorem ggX3_reduce_X3_requireRange : GoodIn wsX3_reduce wsX3_requireRange := goodIn_ca (goodIn_r _ [11, 12, 13] (by decide +kernel) (by decide +kernel)) (goodIn_sub (fun _ h => List.mem_cons_of_mem _ (List.mem_append_right _ h)) (by decide +kernel))
set_option maxRecDepth 20000 in
theorem gX3_reduce_X3_requireRange : GoodIn wsX3_reduce (va_wsS RX3 49 yX3_requireRange wsX3_requireRange) := goodIn_app (goodIn_of _ (by decide +kernel)) ggX3_reduce_X3_requireRange
set_option maxRecDepth 20000 in
theorem ggX3_reduce_X3_saveState : GoodIn wsX3_reduce wsX3_saveState := goodIn_r _ [17, 18, 19, 8, 20, 21, 22, 4, 23, 24, 25, 26, 27, 28, 29, 30, 31, 32, 33, 34, 35, 36, 37, 38, 106, 107, 108, 109, 110, 111, 112, 113, 114, 115] (by decide +kernel) (by decide +kernel)
set_option maxRecDepth 20000 in
theorem gX3_reduce_X3_saveState : GoodIn wsX3_reduce (wsV RX3 69 RX3 yX3_saveState wsX3_saveState) := goodIn_app (goodIn_of _ (by decide +kernel)) ggX3_reduce_X3_saveState
set_option maxRecDepth 20000 in
theorem ggX3_reduce_X3_keyToLeaveOut : GoodIn wsX3_reduce wsX3_keyToLeaveOut := goodIn_r _ [42, 43, 44, 30, 45, 46, 33, 47, 48, 49, 50, 51, 52, 53, 54, 34, 55, 56, 57, 58, 59, 60, 61, 62, 63, 64, 65, 66, 67, 68, 69, 70, 71, 72, 73, 74, 75, 76, 77, 78, 79, 80, 81, 82, 83, 84, 85, 86, 87, 88, 4, 89, 90, 91, 92, 93, 94, 95, 29, 31, 32, 35, 36, 37, 38, 96, 97, 98, 99, 100, 101, 102, 103, 104, 105, 106, 107, 108, 109, 110, 111, 112, 114, 115] (by decide +kernel) (by decide +kernel)
set_option maxRecDepth 20000 in
theorem gX3_reduce_X3_keyToLeaveOut : GoodIn wsX3_reduce (wsV RX3 134 RX3 yX3_keyToLeaveOut wsX3_keyToLeaveOut) := goodIn_app (goodIn_of _ (by decide +kernel)) ggX3_reduce_X3_keyToLeaveOut
set_option maxRecDepth 20000 in
theorem ggX3_reduce_X0_takeOut : GoodIn wsX3_reduce wsX0_takeOut := goodIn_r _ [98, 33, 34, 35, 36, 37, 38, 114, 115] (by decide +kernel) (by decide +kernel)
set_option maxRecDepth 20000 in
theorem gX3_reduce_X0_takeOut_n83 : GoodIn wsX3_reduce (wsX0_takeOut) := ggX3_reduce_X0_takeOut
theorem dX3_reduce_0 : decode cX3_reduce 0 = .ok (.aload_n 0, 1) := by decide +kernel
theorem dX3_reduce_1 : decode cX3_reduce 1 = .ok (.iload_n 1, 1) := by decide +kernel
theorem dX3_reduce_2 : decode cX3_reduce 2 = .ok (.invokevirtual 45, 3) := by decide +kernel
theorem dX3_reduce_5 : decode cX3_reduce 5 = .ok (.astore_n 3, 1) := by decide +kernel
theorem dX3_reduce_6 : decode cX3_reduce 6 = .ok (.iload_n 2, 1) := by decide +kernel
theorem dX3_reduce_7 : decode cX3_reduce 7 = .ok (.iconst 0, 1) := by decide +kernel
theorem dX3_reduce_8 : decode cX3_reduce 8 = .ok (.sipush 9999, 3) := by decide +kernel
theorem dX3_reduce_11 : decode cX3_reduce 11 = .ok (.invokestatic 49, 3) := by decide +kernel
theorem dX3_reduce_14 : decode cX3_reduce 14 = .ok (.aload_n 0, 1) := by decide +kernel
theorem dX3_reduce_15 : decode cX3_reduce 15 = .ok (.invokevirtual 69, 3) := by decide +kernel
theorem dX3_reduce_18 : decode cX3_reduce 18 = .ok (.iconst 0, 1) := by decide +kernel
theorem dX3_reduce_19 : decode cX3_reduce 19 = .ok (.istore 4, 2) := by decide +kernel
theorem dX3_reduce_21 : decode cX3_reduce 21 = .ok (.iconst 0, 1) := by decide +kernel
theorem dX3_reduce_22 : decode cX3_reduce 22 = .ok (.istore 5, 2) := by decide +kernel
theorem dX3_reduce_24 : decode cX3_reduce 24 = .ok (.iload 5, 2) := by decide +kernel
theorem dX3_reduce_26 : decode cX3_reduce 26 = .ok (.bipush 16, 2) := by decide +kernel
theorem dX3_reduce_28 : decode cX3_reduce 28 = .ok (.if_icmp .ge 35, 3) := by decide +kernel
theorem dX3_reduce_31 : decode cX3_reduce 31 = .ok (.aload_n 0, 1) := by decide +kernel
theorem dX3_reduce_32 : decode cX3_reduce 32 = .ok (.aload_n 3, 1) := by decide +kernel
theorem dX3_reduce_33 : decode cX3_reduce 33 = .ok (.iload_n 2, 1) := by decide +kernel
theorem dX3_reduce_34 : decode cX3_reduce 34 = .ok (.invokevirtual 134, 3) := by decide +kernel
theorem dX3_reduce_37 : decode cX3_reduce 37 = .ok (.istore 6, 2) := by decide +kernel
theorem dX3_reduce_39 : decode cX3_reduce 39 = .ok (.iload 6, 2) := by decide +kernel
theorem dX3_reduce_41 : decode cX3_reduce 41 = .ok (.iconst (-1), 1) := by decide +kernel
theorem dX3_reduce_42 : decode cX3_reduce 42 = .ok (.if_icmp .ne 6, 3) := by decide +kernel
theorem dX3_reduce_45 : decode cX3_reduce 45 = .ok (.iload 4, 2) := by decide +kernel
theorem dX3_reduce_47 : decode cX3_reduce 47 = .ok (.ireturn, 1) := by decide +kernel
theorem dX3_reduce_48 : decode cX3_reduce 48 = .ok (.aload_n 3, 1) := by decide +kernel
theorem dX3_reduce_49 : decode cX3_reduce 49 = .ok (.iload 6, 2) := by decide +kernel
theorem dX3_reduce_51 : decode cX3_reduce 51 = .ok (.invokevirtual 83, 3) := by decide +kernel
theorem dX3_reduce_54 : decode cX3_reduce 54 = .ok (.iinc 4 1, 3) := by decide +kernel
theorem dX3_reduce_57 : decode cX3_reduce 57 = .ok (.iinc 5 1, 3) := by decide +kernel
theorem dX3_reduce_60 : decode cX3_reduce 60 = .ok (.goto (-36), 3) := by decide +kernel
theorem dX3_reduce_63 : decode cX3_reduce 63 = .ok (.iload 4, 2) := by decide +kernel
theorem dX3_reduce_65 : decode cX3_reduce 65 = .ok (.ireturn, 1) := by decide +kernel
set_option maxRecDepth 20000 in
theorem ggX3_key_X3_curveNumbered : GoodIn wsX3_key wsX3_curveNumbered := goodIn_ca (goodIn_r _ [5, 6, 7, 8, 35, 36, 37, 38, 39, 40, 41, 42] (by decide +kernel) (by decide +kernel)) (goodIn_sub (fun _ h => List.mem_cons_of_mem _ (List.mem_append_left _ (List.mem_append_right _ h))) (by decide +kernel))
set_option maxRecDepth 20000 in
theorem gX3_key_X3_curveNumbered : GoodIn wsX3_key (wsV RX3 45 RX3 yX3_curveNumbered wsX3_curveNumbered) := goodIn_app (goodIn_of _ (by decide +kernel)) ggX3_key_X3_curveNumbered
set_option maxRecDepth 20000 in
theorem ggX3_key_X3_requireKey : GoodIn wsX3_key wsX3_requireKey := goodIn_ca (goodIn_r _ [11, 6, 7, 33, 34] (by decide +kernel) (by decide +kernel)) (goodIn_sub (fun _ h => List.mem_cons_of_mem _ (List.mem_append_left _ (List.mem_append_right _ h))) (by decide +kernel))
set_option maxRecDepth 20000 in
theorem gX3_key_X3_requireKey : GoodIn wsX3_key (va_wsS RX3 76 yX3_requireKey wsX3_requireKey) := goodIn_app (goodIn_of _ (by decide +kernel)) ggX3_key_X3_requireKey
set_option maxRecDepth 20000 in
theorem ggX3_key_X3_requireRange : GoodIn wsX3_key wsX3_requireRange := goodIn_ca (goodIn_r _ [14, 15, 16] (by decide +kernel) (by decide +kernel)) (goodIn_sub (fun _ h => List.mem_cons_of_mem _ (List.mem_append_right _ h)) (by decide +kernel))
set_option maxRecDepth 20000 in
theorem gX3_key_X3_requireRange : GoodIn wsX3_key (va_wsS RX3 49 yX3_requireRange wsX3_requireRange) := goodIn_app (goodIn_of _ (by decide +kernel)) ggX3_key_X3_requireRange
set_option maxRecDepth 20000 in
theorem ggX3_key_X3_aboutKey : GoodIn wsX3_key wsX3_aboutKey := goodIn_r _ [19, 20, 21, 22, 23, 24, 25, 26, 27, 28, 29, 30, 31, 32, 33, 34] (by decide +kernel) (by decide +kernel)
set_option maxRecDepth 20000 in
theorem gX3_key_X3_aboutKey : GoodIn wsX3_key (va_wsS RX3 138 yX3_aboutKey wsX3_aboutKey) := goodIn_app (goodIn_of _ (by decide +kernel)) ggX3_key_X3_aboutKey
theorem dX3_key_0 : decode cX3_key 0 = .ok (.aload_n 0, 1) := by decide +kernel
theorem dX3_key_1 : decode cX3_key 1 = .ok (.iload_n 1, 1) := by decide +kernel
theorem dX3_key_2 : decode cX3_key 2 = .ok (.invokevirtual 45, 3) := by decide +kernel
theorem dX3_key_5 : decode cX3_key 5 = .ok (.astore 4, 2) := by decide +kernel
theorem dX3_key_7 : decode cX3_key 7 = .ok (.iload_n 2, 1) := by decide +kernel
theorem dX3_key_8 : decode cX3_key 8 = .ok (.iconst (-1), 1) := by decide +kernel
theorem dX3_key_9 : decode cX3_key 9 = .ok (.if_icmp .eq 9, 3) := by decide +kernel
theorem dX3_key_12 : decode cX3_key 12 = .ok (.aload 4, 2) := by decide +kernel
theorem dX3_key_14 : decode cX3_key 14 = .ok (.iload_n 2, 1) := by decide +kernel
theorem dX3_key_15 : decode cX3_key 15 = .ok (.invokestatic 76, 3) := by decide +kernel
theorem dX3_key_18 : decode cX3_key 18 = .ok (.iload_n 3, 1) := by decide +kernel
theorem dX3_key_19 : decode cX3_key 19 = .ok (.iconst 0, 1) := by decide +kernel
theorem dX3_key_20 : decode cX3_key 20 = .ok (.bipush 6, 2) := by decide +kernel
theorem dX3_key_22 : decode cX3_key 22 = .ok (.invokestatic 49, 3) := by decide +kernel
theorem dX3_key_25 : decode cX3_key 25 = .ok (.iload_n 2, 1) := by decide +kernel
theorem dX3_key_26 : decode cX3_key 26 = .ok (.iconst (-1), 1) := by decide +kernel
theorem dX3_key_27 : decode cX3_key 27 = .ok (.if_icmp .ne 11, 3) := by decide +kernel
theorem dX3_key_30 : decode cX3_key 30 = .ok (.aload 4, 2) := by decide +kernel
theorem dX3_key_32 : decode cX3_key 32 = .ok (.getfield 53, 3) := by decide +kernel
theorem dX3_key_35 : decode cX3_key 35 = .ok (.goto 10, 3) := by decide +kernel
theorem dX3_key_38 : decode cX3_key 38 = .ok (.aload 4, 2) := by decide +kernel
theorem dX3_key_40 : decode cX3_key 40 = .ok (.iload_n 2, 1) := by decide +kernel
theorem dX3_key_41 : decode cX3_key 41 = .ok (.iload_n 3, 1) := by decide +kernel
theorem dX3_key_42 : decode cX3_key 42 = .ok (.invokestatic 138, 3) := by decide +kernel
theorem dX3_key_45 : decode cX3_key 45 = .ok (.ireturn, 1) := by decide +kernel
set_option maxRecDepth 20000 in
theorem ggX3_value_X3_curveNumbered : GoodIn wsX3_value wsX3_curveNumbered := goodIn_ca (goodIn_r _ [5, 6, 7, 8, 52, 53, 54, 55, 56, 57, 58, 59] (by decide +kernel) (by decide +kernel)) (goodIn_sub (fun _ h => List.mem_cons_of_mem _ (List.mem_append_left _ (List.mem_append_right _ h))) (by decide +kernel))
set_option maxRecDepth 20000 in
theorem gX3_value_X3_curveNumbered : GoodIn wsX3_value (wsV RX3 45 RX3 yX3_curveNumbered wsX3_curveNumbered) := goodIn_app (goodIn_of _ (by decide +kernel)) ggX3_value_X3_curveNumbered
set_option maxRecDepth 20000 in
theorem ggX3_value_X3_requireRange : GoodIn wsX3_value wsX3_requireRange := goodIn_ca (goodIn_r _ [11, 12, 13] (by decide +kernel) (by decide +kernel)) (goodIn_sub (fun _ h => List.mem_cons_of_mem _ (List.mem_append_right _ h)) (by decide +kernel))
set_option maxRecDepth 20000 in
theorem gX3_value_X3_requireRange : GoodIn wsX3_value (va_wsS RX3 49 yX3_requireRange wsX3_requireRange) := goodIn_app (goodIn_of _ (by decide +kernel)) ggX3_value_X3_requireRange
set_option maxRecDepth 20000 in
theorem ggX3_value_X0_valueAt : GoodIn wsX3_value wsX0_valueAt := goodIn_r _ [17, 18, 19, 20, 15, 21, 22, 23, 24, 25, 26, 27, 28, 29, 30, 31, 32, 33, 34, 35, 36, 37, 38, 39, 40, 41, 42, 43, 44, 45, 46, 47, 48, 49, 50, 51, 60, 61] (by decide +kernel) (by decide +kernel)
set_option maxRecDepth 20000 in
theorem gX3_value_X0_valueAt_n142 : GoodIn wsX3_value (wsX0_valueAt) := ggX3_value_X0_valueAt
theorem dX3_value_0 : decode cX3_value 0 = .ok (.aload_n 0, 1) := by decide +kernel
theorem dX3_value_1 : decode cX3_value 1 = .ok (.iload_n 1, 1) := by decide +kernel
theorem dX3_value_2 : decode cX3_value 2 = .ok (.invokevirtual 45, 3) := by decide +kernel
theorem dX3_value_5 : decode cX3_value 5 = .ok (.astore_n 3, 1) := by decide +kernel
theorem dX3_value_6 : decode cX3_value 6 = .ok (.iload_n 2, 1) := by decide +kernel
theorem dX3_value_7 : decode cX3_value 7 = .ok (.iconst 0, 1) := by decide +kernel
theorem dX3_value_8 : decode cX3_value 8 = .ok (.sipush 999, 3) := by decide +kernel
theorem dX3_value_11 : decode cX3_value 11 = .ok (.invokestatic 49, 3) := by decide +kernel
theorem dX3_value_14 : decode cX3_value 14 = .ok (.aload_n 3, 1) := by decide +kernel
theorem dX3_value_15 : decode cX3_value 15 = .ok (.iload_n 2, 1) := by decide +kernel
theorem dX3_value_16 : decode cX3_value 16 = .ok (.invokevirtual 142, 3) := by decide +kernel
theorem dX3_value_19 : decode cX3_value 19 = .ok (.ireturn, 1) := by decide +kernel
set_option maxRecDepth 20000 in
theorem ggX3_sum_X3_curveNumbered : GoodIn wsX3_sum wsX3_curveNumbered := goodIn_ca (goodIn_r _ [5, 6, 7, 8, 60, 61, 62, 63, 64, 65, 66, 67] (by decide +kernel) (by decide +kernel)) (goodIn_sub (fun _ h => List.mem_cons_of_mem _ (List.mem_append_left _ (List.mem_append_right _ h))) (by decide +kernel))
set_option maxRecDepth 20000 in
theorem gX3_sum_X3_curveNumbered : GoodIn wsX3_sum (wsV RX3 45 RX3 yX3_curveNumbered wsX3_curveNumbered) := goodIn_app (goodIn_of _ (by decide +kernel)) ggX3_sum_X3_curveNumbered
set_option maxRecDepth 20000 in
theorem ggX3_sum_X3_requireFrames : GoodIn wsX3_sum wsX3_requireFrames := goodIn_ca (goodIn_r _ [11, 12, 13, 4, 14, 15, 16] (by decide +kernel) (by decide +kernel)) (goodIn_sub (fun _ h => List.mem_cons_of_mem _ (List.mem_append_right _ h)) (by decide +kernel))
set_option maxRecDepth 20000 in
theorem gX3_sum_X3_requireFrames : GoodIn wsX3_sum (va_wsS RX3 145 yX3_requireFrames wsX3_requireFrames) := goodIn_app (goodIn_of _ (by decide +kernel)) ggX3_sum_X3_requireFrames
set_option maxRecDepth 20000 in
theorem ggX3_sum_X3_sumOver : GoodIn wsX3_sum wsX3_sumOver := goodIn_r _ [20, 21, 22, 23, 24, 25, 26, 27, 28, 29, 30, 31, 32, 33, 34, 35, 36, 37, 38, 39, 40, 41, 42, 43, 44, 45, 46, 47, 48, 49, 50, 51, 52, 53, 54, 55, 56, 57, 58, 59, 60, 61, 62, 63, 64, 65, 66, 68, 69] (by decide +kernel) (by decide +kernel)
set_option maxRecDepth 20000 in
theorem gX3_sum_X3_sumOver : GoodIn wsX3_sum (wsV RX3 148 RX3 yX3_sumOver wsX3_sumOver) := goodIn_app (goodIn_of _ (by decide +kernel)) ggX3_sum_X3_sumOver
theorem dX3_sum_0 : decode cX3_sum 0 = .ok (.aload_n 0, 1) := by decide +kernel
theorem dX3_sum_1 : decode cX3_sum 1 = .ok (.iload_n 1, 1) := by decide +kernel
theorem dX3_sum_2 : decode cX3_sum 2 = .ok (.invokevirtual 45, 3) := by decide +kernel
theorem dX3_sum_5 : decode cX3_sum 5 = .ok (.astore 4, 2) := by decide +kernel
theorem dX3_sum_7 : decode cX3_sum 7 = .ok (.iload_n 2, 1) := by decide +kernel
theorem dX3_sum_8 : decode cX3_sum 8 = .ok (.iload_n 3, 1) := by decide +kernel
theorem dX3_sum_9 : decode cX3_sum 9 = .ok (.invokestatic 145, 3) := by decide +kernel
theorem dX3_sum_12 : decode cX3_sum 12 = .ok (.aload_n 0, 1) := by decide +kernel
theorem dX3_sum_13 : decode cX3_sum 13 = .ok (.aload 4, 2) := by decide +kernel
theorem dX3_sum_15 : decode cX3_sum 15 = .ok (.iload_n 2, 1) := by decide +kernel
theorem dX3_sum_16 : decode cX3_sum 16 = .ok (.iload_n 3, 1) := by decide +kernel
theorem dX3_sum_17 : decode cX3_sum 17 = .ok (.invokevirtual 148, 3) := by decide +kernel
theorem dX3_sum_20 : decode cX3_sum 20 = .ok (.lreturn, 1) := by decide +kernel
set_option maxRecDepth 20000 in
theorem ggX3_extreme_X3_curveNumbered : GoodIn wsX3_extreme wsX3_curveNumbered := goodIn_ca (goodIn_r _ [6, 7, 8, 9, 72, 73, 74, 75, 76, 77, 78, 79] (by decide +kernel) (by decide +kernel)) (goodIn_sub (fun _ h => List.mem_cons_of_mem _ (List.mem_append_left _ (List.mem_append_right _ h))) (by decide +kernel))
set_option maxRecDepth 20000 in
theorem gX3_extreme_X3_curveNumbered : GoodIn wsX3_extreme (wsV RX3 45 RX3 yX3_curveNumbered wsX3_curveNumbered) := goodIn_app (goodIn_of _ (by decide +kernel)) ggX3_extreme_X3_curveNumbered
set_option maxRecDepth 20000 in
theorem ggX3_extreme_X3_requireFrames : GoodIn wsX3_extreme wsX3_requireFrames := goodIn_ca (goodIn_r _ [12, 13, 14, 5, 15, 16, 17] (by decide +kernel) (by decide +kernel)) (goodIn_sub (fun _ h => List.mem_cons_of_mem _ (List.mem_append_right _ h)) (by decide +kernel))
set_option maxRecDepth 20000 in
theorem gX3_extreme_X3_requireFrames : GoodIn wsX3_extreme (va_wsS RX3 145 yX3_requireFrames wsX3_requireFrames) := goodIn_app (goodIn_of _ (by decide +kernel)) ggX3_extreme_X3_requireFrames
set_option maxRecDepth 20000 in
theorem ggX3_extreme_X3_requireRange : GoodIn wsX3_extreme wsX3_requireRange := goodIn_ca (goodIn_r _ [15, 16, 17] (by decide +kernel) (by decide +kernel)) (goodIn_sub (fun _ h => List.mem_cons_of_mem _ (List.mem_append_right _ h)) (by decide +kernel))
set_option maxRecDepth 20000 in
theorem gX3_extreme_X3_requireRange : GoodIn wsX3_extreme (va_wsS RX3 49 yX3_requireRange wsX3_requireRange) := goodIn_app (goodIn_of _ (by decide +kernel)) ggX3_extreme_X3_requireRange
set_option maxRecDepth 20000 in
theorem ggX3_extreme_X0_bake : GoodIn wsX3_extreme wsX0_bake := goodIn_r _ [21, 22, 23, 24, 25, 19, 26, 27, 28, 29, 30, 31, 32, 33, 34, 35, 36, 37, 38, 39, 40, 41, 42, 43, 44, 45, 46, 47, 48, 49, 50, 51, 52, 53, 54, 55, 80, 81] (by decide +kernel) (by decide +kernel)
set_option maxRecDepth 20000 in
theorem gX3_extreme_X0_bake_n152 : GoodIn wsX3_extreme (wsX0_bake) := ggX3_extreme_X0_bake
set_option maxRecDepth 20000 in
theorem ggX3_extreme_X3_frameOfGreatest : GoodIn wsX3_extreme wsX3_frameOfGreatest := goodIn_r _ [59, 1, 72, 73, 74, 75, 76, 77, 78] (by decide +kernel) (by decide +kernel)
set_option maxRecDepth 20000 in
theorem gX3_extreme_X3_frameOfGreatest : GoodIn wsX3_extreme (wsV RX3 156 RX3 yX3_frameOfGreatest wsX3_frameOfGreatest) := goodIn_app (goodIn_of _ (by decide +kernel)) ggX3_extreme_X3_frameOfGreatest
set_option maxRecDepth 20000 in
theorem ggX3_extreme_X3_frameOfSmallest : GoodIn wsX3_extreme wsX3_frameOfSmallest := goodIn_r _ [63, 1, 72, 73, 74, 75, 76, 77, 78] (by decide +kernel) (by decide +kernel)
set_option maxRecDepth 20000 in
theorem gX3_extreme_X3_frameOfSmallest : GoodIn wsX3_extreme (wsV RX3 159 RX3 yX3_frameOfSmallest wsX3_frameOfSmallest) := goodIn_app (goodIn_of _ (by decide +kernel)) ggX3_extreme_X3_frameOfSmallest
set_option maxRecDepth 20000 in
theorem ggX3_extreme_X3_greatestStep : GoodIn wsX3_extreme wsX3_greatestStep := goodIn_r _ [67, 1, 68, 69, 38, 70, 71, 37, 39, 72, 73, 74, 75, 76, 77, 78] (by decide +kernel) (by decide +kernel)
set_option maxRecDepth 20000 in
theorem gX3_extreme_X3_greatestStep : GoodIn wsX3_extreme (wsV RX3 162 RX3 yX3_greatestStep wsX3_greatestStep) := goodIn_app (goodIn_of _ (by decide +kernel)) ggX3_extreme_X3_greatestStep
theorem dX3_extreme_0 : decode cX3_extreme 0 = .ok (.aload_n 0, 1) := by decide +kernel
theorem dX3_extreme_1 : decode cX3_extreme 1 = .ok (.iload_n 1, 1) := by decide +kernel
theorem dX3_extreme_2 : decode cX3_extreme 2 = .ok (.invokevirtual 45, 3) := by decide +kernel
theorem dX3_extreme_5 : decode cX3_extreme 5 = .ok (.astore 5, 2) := by decide +kernel
theorem dX3_extreme_7 : decode cX3_extreme 7 = .ok (.iload_n 2, 1) := by decide +kernel
theorem dX3_extreme_8 : decode cX3_extreme 8 = .ok (.iload_n 3, 1) := by decide +kernel
theorem dX3_extreme_9 : decode cX3_extreme 9 = .ok (.invokestatic 145, 3) := by decide +kernel
theorem dX3_extreme_12 : decode cX3_extreme 12 = .ok (.iload 4, 2) := by decide +kernel
theorem dX3_extreme_14 : decode cX3_extreme 14 = .ok (.iconst 0, 1) := by decide +kernel
theorem dX3_extreme_15 : decode cX3_extreme 15 = .ok (.iconst 4, 1) := by decide +kernel
theorem dX3_extreme_16 : decode cX3_extreme 16 = .ok (.invokestatic 49, 3) := by decide +kernel
theorem dX3_extreme_19 : decode cX3_extreme 19 = .ok (.aload 5, 2) := by decide +kernel
theorem dX3_extreme_21 : decode cX3_extreme 21 = .ok (.aload_n 0, 1) := by decide +kernel
theorem dX3_extreme_22 : decode cX3_extreme 22 = .ok (.getfield 38, 3) := by decide +kernel
theorem dX3_extreme_25 : decode cX3_extreme 25 = .ok (.iload_n 2, 1) := by decide +kernel
theorem dX3_extreme_26 : decode cX3_extreme 26 = .ok (.iload_n 3, 1) := by decide +kernel
theorem dX3_extreme_27 : decode cX3_extreme 27 = .ok (.invokevirtual 152, 3) := by decide +kernel
theorem dX3_extreme_30 : decode cX3_extreme 30 = .ok (.iload 4, 2) := by decide +kernel
theorem dX3_extreme_32 : decode cX3_extreme 32 = .ok (.tableswitch 70 0 3 #[32, 44, 51, 63], 32) := by decide +kernel
theorem dX3_extreme_64 : decode cX3_extreme 64 = .ok (.aload_n 0, 1) := by decide +kernel
theorem dX3_extreme_65 : decode cX3_extreme 65 = .ok (.getfield 38, 3) := by decide +kernel
theorem dX3_extreme_68 : decode cX3_extreme 68 = .ok (.aload_n 0, 1) := by decide +kernel
theorem dX3_extreme_69 : decode cX3_extreme 69 = .ok (.iload_n 2, 1) := by decide +kernel
theorem dX3_extreme_70 : decode cX3_extreme 70 = .ok (.iload_n 3, 1) := by decide +kernel
theorem dX3_extreme_71 : decode cX3_extreme 71 = .ok (.invokevirtual 156, 3) := by decide +kernel
theorem dX3_extreme_74 : decode cX3_extreme 74 = .ok (.iaload, 1) := by decide +kernel
theorem dX3_extreme_75 : decode cX3_extreme 75 = .ok (.ireturn, 1) := by decide +kernel
theorem dX3_extreme_76 : decode cX3_extreme 76 = .ok (.aload_n 0, 1) := by decide +kernel
theorem dX3_extreme_77 : decode cX3_extreme 77 = .ok (.iload_n 2, 1) := by decide +kernel
theorem dX3_extreme_78 : decode cX3_extreme 78 = .ok (.iload_n 3, 1) := by decide +kernel
theorem dX3_extreme_79 : decode cX3_extreme 79 = .ok (.invokevirtual 156, 3) := by decide +kernel
theorem dX3_extreme_82 : decode cX3_extreme 82 = .ok (.ireturn, 1) := by decide +kernel
theorem dX3_extreme_83 : decode cX3_extreme 83 = .ok (.aload_n 0, 1) := by decide +kernel
theorem dX3_extreme_84 : decode cX3_extreme 84 = .ok (.getfield 38, 3) := by decide +kernel
theorem dX3_extreme_87 : decode cX3_extreme 87 = .ok (.aload_n 0, 1) := by decide +kernel
theorem dX3_extreme_88 : decode cX3_extreme 88 = .ok (.iload_n 2, 1) := by decide +kernel
theorem dX3_extreme_89 : decode cX3_extreme 89 = .ok (.iload_n 3, 1) := by decide +kernel
theorem dX3_extreme_90 : decode cX3_extreme 90 = .ok (.invokevirtual 159, 3) := by decide +kernel
theorem dX3_extreme_93 : decode cX3_extreme 93 = .ok (.iaload, 1) := by decide +kernel
theorem dX3_extreme_94 : decode cX3_extreme 94 = .ok (.ireturn, 1) := by decide +kernel
theorem dX3_extreme_95 : decode cX3_extreme 95 = .ok (.aload_n 0, 1) := by decide +kernel
theorem dX3_extreme_96 : decode cX3_extreme 96 = .ok (.iload_n 2, 1) := by decide +kernel
theorem dX3_extreme_97 : decode cX3_extreme 97 = .ok (.iload_n 3, 1) := by decide +kernel
theorem dX3_extreme_98 : decode cX3_extreme 98 = .ok (.invokevirtual 159, 3) := by decide +kernel
theorem dX3_extreme_101 : decode cX3_extreme 101 = .ok (.ireturn, 1) := by decide +kernel
theorem dX3_extreme_102 : decode cX3_extreme 102 = .ok (.aload_n 0, 1) := by decide +kernel
theorem dX3_extreme_103 : decode cX3_extreme 103 = .ok (.iload_n 2, 1) := by decide +kernel
theorem dX3_extreme_104 : decode cX3_extreme 104 = .ok (.iload_n 3, 1) := by decide +kernel
theorem dX3_extreme_105 : decode cX3_extreme 105 = .ok (.invokevirtual 162, 3) := by decide +kernel
theorem dX3_extreme_108 : decode cX3_extreme 108 = .ok (.ireturn, 1) := by decide +kernel
set_option maxRecDepth 20000 in
theorem ggX3_crossings_X3_curveNumbered : GoodIn wsX3_crossings wsX3_curveNumbered := goodIn_ca (goodIn_r _ [8, 9, 10, 11, 55, 56, 57, 58, 59, 60, 61, 62] (by decide +kernel) (by decide +kernel)) (goodIn_sub (fun _ h => List.mem_cons_of_mem _ (List.mem_append_left _ (List.mem_append_right _ h))) (by decide +kernel))
set_option maxRecDepth 20000 in
theorem gX3_crossings_X3_curveNumbered : GoodIn wsX3_crossings (wsV RX3 45 RX3 yX3_curveNumbered wsX3_curveNumbered) := goodIn_app (goodIn_of _ (by decide +kernel)) ggX3_crossings_X3_curveNumbered
set_option maxRecDepth 20000 in
theorem ggX3_crossings_X3_requireRange : GoodIn wsX3_crossings wsX3_requireRange := goodIn_ca (goodIn_r _ [14, 15, 16] (by decide +kernel) (by decide +kernel)) (goodIn_sub (fun _ h => List.mem_cons_of_mem _ (List.mem_append_right _ h)) (by decide +kernel))
set_option maxRecDepth 20000 in
theorem gX3_crossings_X3_requireRange : GoodIn wsX3_crossings (va_wsS RX3 49 yX3_requireRange wsX3_requireRange) := goodIn_app (goodIn_of _ (by decide +kernel)) ggX3_crossings_X3_requireRange
set_option maxRecDepth 20000 in
theorem ggX3_crossings_X0_bake : GoodIn wsX3_crossings wsX0_bake := goodIn_r _ [20, 21, 22, 23, 24, 18, 25, 26, 27, 28, 29, 30, 31, 32, 33, 34, 35, 36, 37, 38, 39, 40, 41, 42, 43, 44, 45, 46, 47, 48, 49, 50, 51, 52, 53, 54, 63, 64] (by decide +kernel) (by decide +kernel)
set_option maxRecDepth 20000 in
theorem gX3_crossings_X0_bake_n152 : GoodIn wsX3_crossings (wsX0_bake) := ggX3_crossings_X0_bake
theorem dX3_crossings_0 : decode cX3_crossings 0 = .ok (.aload_n 0, 1) := by decide +kernel
theorem dX3_crossings_1 : decode cX3_crossings 1 = .ok (.iload_n 1, 1) := by decide +kernel
theorem dX3_crossings_2 : decode cX3_crossings 2 = .ok (.invokevirtual 45, 3) := by decide +kernel
theorem dX3_crossings_5 : decode cX3_crossings 5 = .ok (.astore_n 3, 1) := by decide +kernel
theorem dX3_crossings_6 : decode cX3_crossings 6 = .ok (.iload_n 2, 1) := by decide +kernel
theorem dX3_crossings_7 : decode cX3_crossings 7 = .ok (.ldc 99, 2) := by decide +kernel
theorem dX3_crossings_9 : decode cX3_crossings 9 = .ok (.ldc 100, 2) := by decide +kernel
theorem dX3_crossings_11 : decode cX3_crossings 11 = .ok (.invokestatic 49, 3) := by decide +kernel
theorem dX3_crossings_14 : decode cX3_crossings 14 = .ok (.aload_n 3, 1) := by decide +kernel
theorem dX3_crossings_15 : decode cX3_crossings 15 = .ok (.aload_n 0, 1) := by decide +kernel
theorem dX3_crossings_16 : decode cX3_crossings 16 = .ok (.getfield 38, 3) := by decide +kernel
theorem dX3_crossings_19 : decode cX3_crossings 19 = .ok (.iconst 0, 1) := by decide +kernel
theorem dX3_crossings_20 : decode cX3_crossings 20 = .ok (.sipush 999, 3) := by decide +kernel
theorem dX3_crossings_23 : decode cX3_crossings 23 = .ok (.invokevirtual 152, 3) := by decide +kernel
theorem dX3_crossings_26 : decode cX3_crossings 26 = .ok (.iconst 0, 1) := by decide +kernel
theorem dX3_crossings_27 : decode cX3_crossings 27 = .ok (.istore 4, 2) := by decide +kernel
theorem dX3_crossings_29 : decode cX3_crossings 29 = .ok (.iconst 1, 1) := by decide +kernel
theorem dX3_crossings_30 : decode cX3_crossings 30 = .ok (.istore 5, 2) := by decide +kernel
theorem dX3_crossings_32 : decode cX3_crossings 32 = .ok (.iload 5, 2) := by decide +kernel
theorem dX3_crossings_34 : decode cX3_crossings 34 = .ok (.sipush 1000, 3) := by decide +kernel
theorem dX3_crossings_37 : decode cX3_crossings 37 = .ok (.if_icmp .ge 49, 3) := by decide +kernel
theorem dX3_crossings_40 : decode cX3_crossings 40 = .ok (.aload_n 0, 1) := by decide +kernel
theorem dX3_crossings_41 : decode cX3_crossings 41 = .ok (.getfield 38, 3) := by decide +kernel
theorem dX3_crossings_44 : decode cX3_crossings 44 = .ok (.iload 5, 2) := by decide +kernel
theorem dX3_crossings_46 : decode cX3_crossings 46 = .ok (.iaload, 1) := by decide +kernel
theorem dX3_crossings_47 : decode cX3_crossings 47 = .ok (.iload_n 2, 1) := by decide +kernel
theorem dX3_crossings_48 : decode cX3_crossings 48 = .ok (.if_icmp .lt 7, 3) := by decide +kernel
theorem dX3_crossings_51 : decode cX3_crossings 51 = .ok (.iconst 1, 1) := by decide +kernel
theorem dX3_crossings_52 : decode cX3_crossings 52 = .ok (.goto 4, 3) := by decide +kernel
theorem dX3_crossings_55 : decode cX3_crossings 55 = .ok (.iconst 0, 1) := by decide +kernel
theorem dX3_crossings_56 : decode cX3_crossings 56 = .ok (.aload_n 0, 1) := by decide +kernel
theorem dX3_crossings_57 : decode cX3_crossings 57 = .ok (.getfield 38, 3) := by decide +kernel
theorem dX3_crossings_60 : decode cX3_crossings 60 = .ok (.iload 5, 2) := by decide +kernel
theorem dX3_crossings_62 : decode cX3_crossings 62 = .ok (.iconst 1, 1) := by decide +kernel
theorem dX3_crossings_63 : decode cX3_crossings 63 = .ok (.isub, 1) := by decide +kernel
theorem dX3_crossings_64 : decode cX3_crossings 64 = .ok (.iaload, 1) := by decide +kernel
theorem dX3_crossings_65 : decode cX3_crossings 65 = .ok (.iload_n 2, 1) := by decide +kernel
theorem dX3_crossings_66 : decode cX3_crossings 66 = .ok (.if_icmp .lt 7, 3) := by decide +kernel
theorem dX3_crossings_69 : decode cX3_crossings 69 = .ok (.iconst 1, 1) := by decide +kernel
theorem dX3_crossings_70 : decode cX3_crossings 70 = .ok (.goto 4, 3) := by decide +kernel
theorem dX3_crossings_73 : decode cX3_crossings 73 = .ok (.iconst 0, 1) := by decide +kernel
theorem dX3_crossings_74 : decode cX3_crossings 74 = .ok (.if_icmp .eq 6, 3) := by decide +kernel
theorem dX3_crossings_77 : decode cX3_crossings 77 = .ok (.iinc 4 1, 3) := by decide +kernel
theorem dX3_crossings_80 : decode cX3_crossings 80 = .ok (.iinc 5 1, 3) := by decide +kernel
theorem dX3_crossings_83 : decode cX3_crossings 83 = .ok (.goto (-51), 3) := by decide +kernel
theorem dX3_crossings_86 : decode cX3_crossings 86 = .ok (.iload 4, 2) := by decide +kernel
theorem dX3_crossings_88 : decode cX3_crossings 88 = .ok (.ireturn, 1) := by decide +kernel
set_option maxRecDepth 20000 in
theorem ggX3_difference_X3_curveNumbered : GoodIn wsX3_difference wsX3_curveNumbered := goodIn_ca (goodIn_r _ [7, 8, 9, 10, 57, 58, 59, 60, 61, 62, 63, 64] (by decide +kernel) (by decide +kernel)) (goodIn_sub (fun _ h => List.mem_cons_of_mem _ (List.mem_append_right _ h)) (by decide +kernel))
set_option maxRecDepth 20000 in
theorem gX3_difference_X3_curveNumbered : GoodIn wsX3_difference (wsV RX3 45 RX3 yX3_curveNumbered wsX3_curveNumbered) := goodIn_app (goodIn_of _ (by decide +kernel)) ggX3_difference_X3_curveNumbered
set_option maxRecDepth 20000 in
theorem ggX3_difference_X0_bake : GoodIn wsX3_difference wsX0_bake := goodIn_r _ [14, 15, 16, 17, 18, 12, 19, 20, 21, 22, 23, 24, 25, 26, 27, 28, 29, 30, 31, 32, 33, 34, 35, 36, 37, 38, 39, 40, 41, 42, 43, 44, 45, 46, 47, 48, 65, 66] (by decide +kernel) (by decide +kernel)
set_option maxRecDepth 20000 in
theorem gX3_difference_X0_bake_n152 : GoodIn wsX3_difference (wsX0_bake) := ggX3_difference_X0_bake
set_option maxRecDepth 20000 in
theorem ggX3_difference_X3_greatestDifference : GoodIn wsX3_difference wsX3_greatestDifference := goodIn_r _ [52, 1, 2, 53, 54, 31, 55, 56, 30, 32, 57, 58, 59, 60, 61, 62, 63] (by decide +kernel) (by decide +kernel)
set_option maxRecDepth 20000 in
theorem gX3_difference_X3_greatestDifference : GoodIn wsX3_difference (wsV RX3 165 RX3 yX3_greatestDifference wsX3_greatestDifference) := goodIn_app (goodIn_of _ (by decide +kernel)) ggX3_difference_X3_greatestDifference
theorem dX3_difference_0 : decode cX3_difference 0 = .ok (.aload_n 0, 1) := by decide +kernel
theorem dX3_difference_1 : decode cX3_difference 1 = .ok (.iload_n 1, 1) := by decide +kernel
theorem dX3_difference_2 : decode cX3_difference 2 = .ok (.invokevirtual 45, 3) := by decide +kernel
theorem dX3_difference_5 : decode cX3_difference 5 = .ok (.astore_n 3, 1) := by decide +kernel
theorem dX3_difference_6 : decode cX3_difference 6 = .ok (.aload_n 0, 1) := by decide +kernel
theorem dX3_difference_7 : decode cX3_difference 7 = .ok (.iload_n 2, 1) := by decide +kernel
theorem dX3_difference_8 : decode cX3_difference 8 = .ok (.invokevirtual 45, 3) := by decide +kernel
theorem dX3_difference_11 : decode cX3_difference 11 = .ok (.astore 4, 2) := by decide +kernel
theorem dX3_difference_13 : decode cX3_difference 13 = .ok (.aload_n 3, 1) := by decide +kernel
theorem dX3_difference_14 : decode cX3_difference 14 = .ok (.aload_n 0, 1) := by decide +kernel
theorem dX3_difference_15 : decode cX3_difference 15 = .ok (.getfield 38, 3) := by decide +kernel
theorem dX3_difference_18 : decode cX3_difference 18 = .ok (.iconst 0, 1) := by decide +kernel
theorem dX3_difference_19 : decode cX3_difference 19 = .ok (.sipush 999, 3) := by decide +kernel
theorem dX3_difference_22 : decode cX3_difference 22 = .ok (.invokevirtual 152, 3) := by decide +kernel
theorem dX3_difference_25 : decode cX3_difference 25 = .ok (.aload 4, 2) := by decide +kernel
theorem dX3_difference_27 : decode cX3_difference 27 = .ok (.aload_n 0, 1) := by decide +kernel
theorem dX3_difference_28 : decode cX3_difference 28 = .ok (.getfield 42, 3) := by decide +kernel
theorem dX3_difference_31 : decode cX3_difference 31 = .ok (.iconst 0, 1) := by decide +kernel
theorem dX3_difference_32 : decode cX3_difference 32 = .ok (.sipush 999, 3) := by decide +kernel
theorem dX3_difference_35 : decode cX3_difference 35 = .ok (.invokevirtual 152, 3) := by decide +kernel
theorem dX3_difference_38 : decode cX3_difference 38 = .ok (.aload_n 0, 1) := by decide +kernel
theorem dX3_difference_39 : decode cX3_difference 39 = .ok (.iconst 0, 1) := by decide +kernel
theorem dX3_difference_40 : decode cX3_difference 40 = .ok (.sipush 999, 3) := by decide +kernel
theorem dX3_difference_43 : decode cX3_difference 43 = .ok (.invokevirtual 165, 3) := by decide +kernel
theorem dX3_difference_46 : decode cX3_difference 46 = .ok (.ireturn, 1) := by decide +kernel
set_option maxRecDepth 20000 in
theorem ggX3_mean_X3_curveNumbered : GoodIn wsX3_mean wsX3_curveNumbered := goodIn_ca (goodIn_r _ [6, 7, 8, 9, 53, 54, 55, 56, 57, 58, 59, 60] (by decide +kernel) (by decide +kernel)) (goodIn_sub (fun _ h => List.mem_cons_of_mem _ (List.mem_append_right _ h)) (by decide +kernel))
set_option maxRecDepth 20000 in
theorem gX3_mean_X3_curveNumbered : GoodIn wsX3_mean (wsV RX3 45 RX3 yX3_curveNumbered wsX3_curveNumbered) := goodIn_app (goodIn_of _ (by decide +kernel)) ggX3_mean_X3_curveNumbered
set_option maxRecDepth 20000 in
theorem ggX3_mean_X3_sumOver : GoodIn wsX3_mean wsX3_sumOver := goodIn_r _ [13, 14, 15, 16, 17, 18, 19, 20, 21, 22, 23, 24, 25, 26, 27, 28, 29, 30, 31, 32, 33, 34, 35, 36, 37, 38, 39, 40, 41, 42, 43, 44, 45, 46, 47, 48, 49, 50, 51, 52, 53, 54, 55, 56, 57, 58, 59, 61, 62] (by decide +kernel) (by decide +kernel)
set_option maxRecDepth 20000 in
theorem gX3_mean_X3_sumOver : GoodIn wsX3_mean (wsV RX3 148 RX3 yX3_sumOver wsX3_sumOver) := goodIn_app (goodIn_of _ (by decide +kernel)) ggX3_mean_X3_sumOver
theorem dX3_mean_0 : decode cX3_mean 0 = .ok (.aload_n 0, 1) := by decide +kernel
theorem dX3_mean_1 : decode cX3_mean 1 = .ok (.iload_n 1, 1) := by decide +kernel
theorem dX3_mean_2 : decode cX3_mean 2 = .ok (.invokevirtual 45, 3) := by decide +kernel
theorem dX3_mean_5 : decode cX3_mean 5 = .ok (.astore_n 2, 1) := by decide +kernel
theorem dX3_mean_6 : decode cX3_mean 6 = .ok (.aload_n 0, 1) := by decide +kernel
theorem dX3_mean_7 : decode cX3_mean 7 = .ok (.aload_n 2, 1) := by decide +kernel
theorem dX3_mean_8 : decode cX3_mean 8 = .ok (.iconst 0, 1) := by decide +kernel
theorem dX3_mean_9 : decode cX3_mean 9 = .ok (.sipush 999, 3) := by decide +kernel
theorem dX3_mean_12 : decode cX3_mean 12 = .ok (.invokevirtual 148, 3) := by decide +kernel
theorem dX3_mean_15 : decode cX3_mean 15 = .ok (.l2d, 1) := by decide +kernel
theorem dX3_mean_16 : decode cX3_mean 16 = .ok (.ldc2_w 168, 3) := by decide +kernel
theorem dX3_mean_19 : decode cX3_mean 19 = .ok (.ddiv, 1) := by decide +kernel
theorem dX3_mean_20 : decode cX3_mean 20 = .ok (.dreturn, 1) := by decide +kernel
set_option maxRecDepth 20000 in
theorem ggX3_error_X3_curveNumbered : GoodIn wsX3_error wsX3_curveNumbered := goodIn_ca (goodIn_r _ [6, 7, 8, 9, 85, 86, 87, 88, 89, 90, 91, 92] (by decide +kernel) (by decide +kernel)) (goodIn_sub (fun _ h => List.mem_cons_of_mem _ (List.mem_append_right _ h)) (by decide +kernel))
set_option maxRecDepth 20000 in
theorem gX3_error_X3_curveNumbered : GoodIn wsX3_error (wsV RX3 45 RX3 yX3_curveNumbered wsX3_curveNumbered) := goodIn_app (goodIn_of _ (by decide +kernel)) ggX3_error_X3_curveNumbered
set_option maxRecDepth 20000 in
theorem ggX3_error_X3_requireKey : GoodIn wsX3_error wsX3_requireKey := goodIn_ca (goodIn_r _ [12, 7, 8, 93, 94] (by decide +kernel) (by decide +kernel)) (goodIn_sub (fun _ h => List.mem_cons_of_mem _ (List.mem_append_right _ h)) (by decide +kernel))
set_option maxRecDepth 20000 in
theorem gX3_error_X3_requireKey : GoodIn wsX3_error (va_wsS RX3 76 yX3_requireKey wsX3_requireKey) := goodIn_app (goodIn_of _ (by decide +kernel)) ggX3_error_X3_requireKey
set_option maxRecDepth 20000 in
theorem ggX3_error_X0_mayLeaveOut : GoodIn wsX3_error wsX0_mayLeaveOut := goodIn_r _ [16, 17, 18, 19, 20, 14, 21, 22, 23, 24, 25, 26, 93, 94] (by decide +kernel) (by decide +kernel)
set_option maxRecDepth 20000 in
theorem gX3_error_X0_mayLeaveOut_n170 : GoodIn wsX3_error (wsX0_mayLeaveOut) := ggX3_error_X0_mayLeaveOut
set_option maxRecDepth 20000 in
theorem ggX3_error_X0_bake : GoodIn wsX3_error wsX0_bake := goodIn_r _ [29, 17, 30, 31, 32, 14, 33, 22, 23, 24, 25, 26, 34, 35, 36, 37, 38, 39, 40, 41, 42, 43, 44, 45, 46, 47, 48, 49, 50, 51, 52, 53, 54, 55, 56, 57, 93, 94] (by decide +kernel) (by decide +kernel)
set_option maxRecDepth 20000 in
theorem gX3_error_X0_bake_n152 : GoodIn wsX3_error (wsX0_bake) := ggX3_error_X0_bake
set_option maxRecDepth 20000 in
theorem ggX3_error_X3_differenceWithout : GoodIn wsX3_error wsX3_differenceWithout := goodIn_r _ [61, 62, 39, 40, 41, 63, 64, 65, 66, 67, 23, 14, 24, 25, 17, 26, 68, 69, 70, 71, 72, 73, 74, 75, 76, 77, 27, 28, 29, 30, 31, 32, 33, 22, 34, 35, 36, 37, 38, 42, 43, 44, 45, 46, 47, 48, 49, 50, 51, 52, 53, 54, 55, 56, 57, 78, 79, 80, 5, 81, 1, 82, 83, 84, 93, 94, 85, 86, 87, 88, 89, 90, 91] (by decide +kernel) (by decide +kernel)
set_option maxRecDepth 20000 in
theorem gX3_error_X3_differenceWithout : GoodIn wsX3_error (wsV RX3 173 RX3 yX3_differenceWithout wsX3_differenceWithout) := goodIn_app (goodIn_of _ (by decide +kernel)) ggX3_error_X3_differenceWithout
theorem dX3_error_0 : decode cX3_error 0 = .ok (.aload_n 0, 1) := by decide +kernel
theorem dX3_error_1 : decode cX3_error 1 = .ok (.iload_n 1, 1) := by decide +kernel
theorem dX3_error_2 : decode cX3_error 2 = .ok (.invokevirtual 45, 3) := by decide +kernel
theorem dX3_error_5 : decode cX3_error 5 = .ok (.astore_n 3, 1) := by decide +kernel
theorem dX3_error_6 : decode cX3_error 6 = .ok (.aload_n 3, 1) := by decide +kernel
theorem dX3_error_7 : decode cX3_error 7 = .ok (.iload_n 2, 1) := by decide +kernel
theorem dX3_error_8 : decode cX3_error 8 = .ok (.invokestatic 76, 3) := by decide +kernel
theorem dX3_error_11 : decode cX3_error 11 = .ok (.aload_n 3, 1) := by decide +kernel
theorem dX3_error_12 : decode cX3_error 12 = .ok (.iload_n 2, 1) := by decide +kernel
theorem dX3_error_13 : decode cX3_error 13 = .ok (.invokevirtual 170, 3) := by decide +kernel
theorem dX3_error_16 : decode cX3_error 16 = .ok (.ifCond .ne 5, 3) := by decide +kernel
theorem dX3_error_19 : decode cX3_error 19 = .ok (.iconst (-1), 1) := by decide +kernel
theorem dX3_error_20 : decode cX3_error 20 = .ok (.ireturn, 1) := by decide +kernel
theorem dX3_error_21 : decode cX3_error 21 = .ok (.aload_n 3, 1) := by decide +kernel
theorem dX3_error_22 : decode cX3_error 22 = .ok (.aload_n 0, 1) := by decide +kernel
theorem dX3_error_23 : decode cX3_error 23 = .ok (.getfield 38, 3) := by decide +kernel
theorem dX3_error_26 : decode cX3_error 26 = .ok (.iconst 0, 1) := by decide +kernel
theorem dX3_error_27 : decode cX3_error 27 = .ok (.sipush 999, 3) := by decide +kernel
theorem dX3_error_30 : decode cX3_error 30 = .ok (.invokevirtual 152, 3) := by decide +kernel
theorem dX3_error_33 : decode cX3_error 33 = .ok (.aload_n 0, 1) := by decide +kernel
theorem dX3_error_34 : decode cX3_error 34 = .ok (.aload_n 3, 1) := by decide +kernel
theorem dX3_error_35 : decode cX3_error 35 = .ok (.iload_n 2, 1) := by decide +kernel
theorem dX3_error_36 : decode cX3_error 36 = .ok (.invokevirtual 173, 3) := by decide +kernel
theorem dX3_error_39 : decode cX3_error 39 = .ok (.ireturn, 1) := by decide +kernel
set_option maxRecDepth 20000 in
theorem ggX3_greatestStretch_X3_curveNumbered : GoodIn wsX3_greatestStretch wsX3_curveNumbered := goodIn_ca (goodIn_r _ [5, 6, 7, 8, 34, 35, 36, 37, 38, 39, 40, 41] (by decide +kernel) (by decide +kernel)) (goodIn_sub (fun _ h => List.mem_cons_of_mem _ (List.mem_append_left _ (List.mem_append_right _ h))) (by decide +kernel))
set_option maxRecDepth 20000 in
theorem gX3_greatestStretch_X3_curveNumbered : GoodIn wsX3_greatestStretch (wsV RX3 45 RX3 yX3_curveNumbered wsX3_curveNumbered) := goodIn_app (goodIn_of _ (by decide +kernel)) ggX3_greatestStretch_X3_curveNumbered
set_option maxRecDepth 20000 in
theorem ggX3_greatestStretch_X3_requireSpan : GoodIn wsX3_greatestStretch wsX3_requireSpan := goodIn_ca (goodIn_r _ [11, 12, 13, 4, 14, 15, 16] (by decide +kernel) (by decide +kernel)) (goodIn_sub (fun _ h => List.mem_cons_of_mem _ (List.mem_append_right _ h)) (by decide +kernel))
set_option maxRecDepth 20000 in
theorem gX3_greatestStretch_X3_requireSpan : GoodIn wsX3_greatestStretch (va_wsS RX3 104 yX3_requireSpan wsX3_requireSpan) := goodIn_app (goodIn_of _ (by decide +kernel)) ggX3_greatestStretch_X3_requireSpan
set_option maxRecDepth 20000 in
theorem ggX3_greatestStretch_X0_canStretch : GoodIn wsX3_greatestStretch wsX0_canStretch := goodIn_r _ [20, 21, 22, 23, 24, 18, 25, 26, 27, 28, 29, 30, 31, 32, 33, 42, 43] (by decide +kernel) (by decide +kernel)
set_option maxRecDepth 20000 in
theorem gX3_greatestStretch_X0_canStretch_n108 : GoodIn wsX3_greatestStretch (wsX0_canStretch) := ggX3_greatestStretch_X0_canStretch
theorem dX3_greatestStretch_0 : decode cX3_greatestStretch 0 = .ok (.aload_n 0, 1) := by decide +kernel
theorem dX3_greatestStretch_1 : decode cX3_greatestStretch 1 = .ok (.iload_n 1, 1) := by decide +kernel
theorem dX3_greatestStretch_2 : decode cX3_greatestStretch 2 = .ok (.invokevirtual 45, 3) := by decide +kernel
theorem dX3_greatestStretch_5 : decode cX3_greatestStretch 5 = .ok (.astore 4, 2) := by decide +kernel
theorem dX3_greatestStretch_7 : decode cX3_greatestStretch 7 = .ok (.iload_n 2, 1) := by decide +kernel
theorem dX3_greatestStretch_8 : decode cX3_greatestStretch 8 = .ok (.iload_n 3, 1) := by decide +kernel
theorem dX3_greatestStretch_9 : decode cX3_greatestStretch 9 = .ok (.invokestatic 104, 3) := by decide +kernel
theorem dX3_greatestStretch_12 : decode cX3_greatestStretch 12 = .ok (.sipush 500, 3) := by decide +kernel
theorem dX3_greatestStretch_15 : decode cX3_greatestStretch 15 = .ok (.istore 5, 2) := by decide +kernel
theorem dX3_greatestStretch_17 : decode cX3_greatestStretch 17 = .ok (.iload 5, 2) := by decide +kernel
theorem dX3_greatestStretch_19 : decode cX3_greatestStretch 19 = .ok (.bipush 100, 2) := by decide +kernel
theorem dX3_greatestStretch_21 : decode cX3_greatestStretch 21 = .ok (.if_icmp .le 24, 3) := by decide +kernel
theorem dX3_greatestStretch_24 : decode cX3_greatestStretch 24 = .ok (.aload 4, 2) := by decide +kernel
theorem dX3_greatestStretch_26 : decode cX3_greatestStretch 26 = .ok (.iload_n 2, 1) := by decide +kernel
theorem dX3_greatestStretch_27 : decode cX3_greatestStretch 27 = .ok (.iload_n 3, 1) := by decide +kernel
theorem dX3_greatestStretch_28 : decode cX3_greatestStretch 28 = .ok (.iload 5, 2) := by decide +kernel
theorem dX3_greatestStretch_30 : decode cX3_greatestStretch 30 = .ok (.invokevirtual 108, 3) := by decide +kernel
theorem dX3_greatestStretch_33 : decode cX3_greatestStretch 33 = .ok (.ifCond .eq 6, 3) := by decide +kernel
theorem dX3_greatestStretch_36 : decode cX3_greatestStretch 36 = .ok (.iload 5, 2) := by decide +kernel
theorem dX3_greatestStretch_38 : decode cX3_greatestStretch 38 = .ok (.ireturn, 1) := by decide +kernel
theorem dX3_greatestStretch_39 : decode cX3_greatestStretch 39 = .ok (.iinc 5 (-10), 3) := by decide +kernel
theorem dX3_greatestStretch_42 : decode cX3_greatestStretch 42 = .ok (.goto (-25), 3) := by decide +kernel
theorem dX3_greatestStretch_45 : decode cX3_greatestStretch 45 = .ok (.bipush 100, 2) := by decide +kernel
theorem dX3_greatestStretch_47 : decode cX3_greatestStretch 47 = .ok (.ireturn, 1) := by decide +kernel
set_option maxRecDepth 20000 in
theorem ggX3_leastEase_X3_curveNumbered : GoodIn wsX3_leastEase wsX3_curveNumbered := goodIn_ca (goodIn_r _ [8, 1, 2, 9, 68, 69, 70, 71, 72, 73, 74, 75] (by decide +kernel) (by decide +kernel)) (goodIn_sub (fun _ h => List.mem_cons_of_mem _ (List.mem_append_right _ h)) (by decide +kernel))
set_option maxRecDepth 20000 in
theorem gX3_leastEase_X3_curveNumbered : GoodIn wsX3_leastEase (wsV RX3 45 RX3 yX3_curveNumbered wsX3_curveNumbered) := goodIn_app (goodIn_of _ (by decide +kernel)) ggX3_leastEase_X3_curveNumbered
set_option maxRecDepth 20000 in
theorem ggX3_leastEase_X3_requireKey : GoodIn wsX3_leastEase wsX3_requireKey := goodIn_ca (goodIn_r _ [12, 1, 2, 66, 67] (by decide +kernel) (by decide +kernel)) (goodIn_sub (fun _ h => List.mem_cons_of_mem _ (List.mem_append_right _ h)) (by decide +kernel))
set_option maxRecDepth 20000 in
theorem gX3_leastEase_X3_requireKey : GoodIn wsX3_leastEase (va_wsS RX3 76 yX3_requireKey wsX3_requireKey) := goodIn_app (goodIn_of _ (by decide +kernel)) ggX3_leastEase_X3_requireKey
set_option maxRecDepth 20000 in
theorem ggX3_leastEase_X0_cell : GoodIn wsX3_leastEase wsX0_cell := goodIn_r _ [16, 17, 18, 66, 67] (by decide +kernel) (by decide +kernel)
set_option maxRecDepth 20000 in
theorem gX3_leastEase_X0_cell_n87 : GoodIn wsX3_leastEase (wsX0_cell) := ggX3_leastEase_X0_cell
set_option maxRecDepth 20000 in
theorem ggX3_leastEase_X0_become : GoodIn wsX3_leastEase wsX0_become := goodIn_r _ [21, 17, 18, 22, 23, 24, 25, 66, 67] (by decide +kernel) (by decide +kernel)
set_option maxRecDepth 20000 in
theorem gX3_leastEase_X0_become_n128 : GoodIn wsX3_leastEase (wsX0_become) := ggX3_leastEase_X0_become
set_option maxRecDepth 20000 in
theorem ggX3_leastEase_X0_put : GoodIn wsX3_leastEase wsX0_put := goodIn_r _ [28, 17, 18, 66, 67] (by decide +kernel) (by decide +kernel)
set_option maxRecDepth 20000 in
theorem gX3_leastEase_X0_put_n91 : GoodIn wsX3_leastEase (wsX0_put) := ggX3_leastEase_X0_put
set_option maxRecDepth 20000 in
theorem ggX3_leastEase_X3_sumOver : GoodIn wsX3_leastEase wsX3_sumOver := goodIn_r _ [32, 33, 34, 14, 35, 36, 17, 37, 38, 39, 40, 41, 13, 15, 16, 18, 42, 43, 44, 45, 46, 47, 48, 49, 50, 51, 52, 53, 54, 55, 56, 57, 58, 59, 60, 61, 62, 63, 64, 65, 68, 69, 70, 71, 72, 73, 74, 66, 67] (by decide +kernel) (by decide +kernel)
set_option maxRecDepth 20000 in
theorem gX3_leastEase_X3_sumOver : GoodIn wsX3_leastEase (wsV RX3 148 RX3 yX3_sumOver wsX3_sumOver) := goodIn_app (goodIn_of _ (by decide +kernel)) ggX3_leastEase_X3_sumOver
theorem dX3_leastEase_0 : decode cX3_leastEase 0 = .ok (.aload_n 0, 1) := by decide +kernel
theorem dX3_leastEase_1 : decode cX3_leastEase 1 = .ok (.iload_n 1, 1) := by decide +kernel
theorem dX3_leastEase_2 : decode cX3_leastEase 2 = .ok (.invokevirtual 45, 3) := by decide +kernel
theorem dX3_leastEase_5 : decode cX3_leastEase 5 = .ok (.astore_n 3, 1) := by decide +kernel
theorem dX3_leastEase_6 : decode cX3_leastEase 6 = .ok (.aload_n 3, 1) := by decide +kernel
theorem dX3_leastEase_7 : decode cX3_leastEase 7 = .ok (.iload_n 2, 1) := by decide +kernel
theorem dX3_leastEase_8 : decode cX3_leastEase 8 = .ok (.invokestatic 76, 3) := by decide +kernel
theorem dX3_leastEase_11 : decode cX3_leastEase 11 = .ok (.iload_n 2, 1) := by decide +kernel
theorem dX3_leastEase_12 : decode cX3_leastEase 12 = .ok (.aload_n 3, 1) := by decide +kernel
theorem dX3_leastEase_13 : decode cX3_leastEase 13 = .ok (.getfield 53, 3) := by decide +kernel
theorem dX3_leastEase_16 : decode cX3_leastEase 16 = .ok (.iconst 1, 1) := by decide +kernel
theorem dX3_leastEase_17 : decode cX3_leastEase 17 = .ok (.isub, 1) := by decide +kernel
theorem dX3_leastEase_18 : decode cX3_leastEase 18 = .ok (.if_icmp .ne 13, 3) := by decide +kernel
theorem dX3_leastEase_21 : decode cX3_leastEase 21 = .ok (.new 176, 3) := by decide +kernel
theorem dX3_leastEase_24 : decode cX3_leastEase 24 = .ok (.dup, 1) := by decide +kernel
theorem dX3_leastEase_25 : decode cX3_leastEase 25 = .ok (.ldc 178, 2) := by decide +kernel
theorem dX3_leastEase_27 : decode cX3_leastEase 27 = .ok (.invokespecial 180, 3) := by decide +kernel
theorem dX3_leastEase_30 : decode cX3_leastEase 30 = .ok (.athrow, 1) := by decide +kernel
theorem dX3_leastEase_31 : decode cX3_leastEase 31 = .ok (.aload_n 3, 1) := by decide +kernel
theorem dX3_leastEase_32 : decode cX3_leastEase 32 = .ok (.iload_n 2, 1) := by decide +kernel
theorem dX3_leastEase_33 : decode cX3_leastEase 33 = .ok (.iconst 0, 1) := by decide +kernel
theorem dX3_leastEase_34 : decode cX3_leastEase 34 = .ok (.invokevirtual 87, 3) := by decide +kernel
theorem dX3_leastEase_37 : decode cX3_leastEase 37 = .ok (.istore 4, 2) := by decide +kernel
theorem dX3_leastEase_39 : decode cX3_leastEase 39 = .ok (.aload_n 3, 1) := by decide +kernel
theorem dX3_leastEase_40 : decode cX3_leastEase 40 = .ok (.iload_n 2, 1) := by decide +kernel
theorem dX3_leastEase_41 : decode cX3_leastEase 41 = .ok (.iconst 1, 1) := by decide +kernel
theorem dX3_leastEase_42 : decode cX3_leastEase 42 = .ok (.iadd, 1) := by decide +kernel
theorem dX3_leastEase_43 : decode cX3_leastEase 43 = .ok (.iconst 0, 1) := by decide +kernel
theorem dX3_leastEase_44 : decode cX3_leastEase 44 = .ok (.invokevirtual 87, 3) := by decide +kernel
theorem dX3_leastEase_47 : decode cX3_leastEase 47 = .ok (.istore 5, 2) := by decide +kernel
theorem dX3_leastEase_49 : decode cX3_leastEase 49 = .ok (.aload_n 0, 1) := by decide +kernel
theorem dX3_leastEase_50 : decode cX3_leastEase 50 = .ok (.getfield 34, 3) := by decide +kernel
theorem dX3_leastEase_53 : decode cX3_leastEase 53 = .ok (.aload_n 3, 1) := by decide +kernel
theorem dX3_leastEase_54 : decode cX3_leastEase 54 = .ok (.invokevirtual 128, 3) := by decide +kernel
theorem dX3_leastEase_57 : decode cX3_leastEase 57 = .ok (.iconst 0, 1) := by decide +kernel
theorem dX3_leastEase_58 : decode cX3_leastEase 58 = .ok (.istore 6, 2) := by decide +kernel
theorem dX3_leastEase_60 : decode cX3_leastEase 60 = .ok (.lconst 0, 1) := by decide +kernel
theorem dX3_leastEase_61 : decode cX3_leastEase 61 = .ok (.lstore 7, 2) := by decide +kernel
theorem dX3_leastEase_63 : decode cX3_leastEase 63 = .ok (.iconst 0, 1) := by decide +kernel
theorem dX3_leastEase_64 : decode cX3_leastEase 64 = .ok (.istore 9, 2) := by decide +kernel
theorem dX3_leastEase_66 : decode cX3_leastEase 66 = .ok (.iload 9, 2) := by decide +kernel
theorem dX3_leastEase_68 : decode cX3_leastEase 68 = .ok (.iconst 5, 1) := by decide +kernel
theorem dX3_leastEase_69 : decode cX3_leastEase 69 = .ok (.if_icmp .gt 55, 3) := by decide +kernel
theorem dX3_leastEase_72 : decode cX3_leastEase 72 = .ok (.aload_n 0, 1) := by decide +kernel
theorem dX3_leastEase_73 : decode cX3_leastEase 73 = .ok (.getfield 34, 3) := by decide +kernel
theorem dX3_leastEase_76 : decode cX3_leastEase 76 = .ok (.iload_n 2, 1) := by decide +kernel
theorem dX3_leastEase_77 : decode cX3_leastEase 77 = .ok (.iconst 2, 1) := by decide +kernel
theorem dX3_leastEase_78 : decode cX3_leastEase 78 = .ok (.iload 9, 2) := by decide +kernel
theorem dX3_leastEase_80 : decode cX3_leastEase 80 = .ok (.invokevirtual 91, 3) := by decide +kernel
theorem dX3_leastEase_83 : decode cX3_leastEase 83 = .ok (.aload_n 0, 1) := by decide +kernel
theorem dX3_leastEase_84 : decode cX3_leastEase 84 = .ok (.aload_n 0, 1) := by decide +kernel
theorem dX3_leastEase_85 : decode cX3_leastEase 85 = .ok (.getfield 34, 3) := by decide +kernel
theorem dX3_leastEase_88 : decode cX3_leastEase 88 = .ok (.iload 4, 2) := by decide +kernel
theorem dX3_leastEase_90 : decode cX3_leastEase 90 = .ok (.iload 5, 2) := by decide +kernel
theorem dX3_leastEase_92 : decode cX3_leastEase 92 = .ok (.invokevirtual 148, 3) := by decide +kernel
theorem dX3_leastEase_95 : decode cX3_leastEase 95 = .ok (.lstore 10, 2) := by decide +kernel
theorem dX3_leastEase_97 : decode cX3_leastEase 97 = .ok (.iload 9, 2) := by decide +kernel
theorem dX3_leastEase_99 : decode cX3_leastEase 99 = .ok (.ifCond .eq 11, 3) := by decide +kernel
theorem dX3_leastEase_102 : decode cX3_leastEase 102 = .ok (.lload 10, 2) := by decide +kernel
theorem dX3_leastEase_104 : decode cX3_leastEase 104 = .ok (.lload 7, 2) := by decide +kernel
theorem dX3_leastEase_106 : decode cX3_leastEase 106 = .ok (.lcmp, 1) := by decide +kernel
theorem dX3_leastEase_107 : decode cX3_leastEase 107 = .ok (.ifCond .ge 11, 3) := by decide +kernel
theorem dX3_leastEase_110 : decode cX3_leastEase 110 = .ok (.iload 9, 2) := by decide +kernel
theorem dX3_leastEase_112 : decode cX3_leastEase 112 = .ok (.istore 6, 2) := by decide +kernel
theorem dX3_leastEase_114 : decode cX3_leastEase 114 = .ok (.lload 10, 2) := by decide +kernel
theorem dX3_leastEase_116 : decode cX3_leastEase 116 = .ok (.lstore 7, 2) := by decide +kernel
theorem dX3_leastEase_118 : decode cX3_leastEase 118 = .ok (.iinc 9 1, 3) := by decide +kernel
theorem dX3_leastEase_121 : decode cX3_leastEase 121 = .ok (.goto (-55), 3) := by decide +kernel
theorem dX3_leastEase_124 : decode cX3_leastEase 124 = .ok (.iload 6, 2) := by decide +kernel
theorem dX3_leastEase_126 : decode cX3_leastEase 126 = .ok (.ireturn, 1) := by decide +kernel
set_option maxRecDepth 20000 in
theorem ggX3_append_X3_requireRange : GoodIn wsX3_append wsX3_requireRange := goodIn_ca (goodIn_r _ [7, 8, 9] (by decide +kernel) (by decide +kernel)) (goodIn_sub (fun _ h => List.mem_cons_of_mem _ (List.mem_append_right _ h)) (by decide +kernel))
set_option maxRecDepth 20000 in
theorem gX3_append_X3_requireRange : GoodIn wsX3_append (va_wsS RX3 49 yX3_requireRange wsX3_requireRange) := goodIn_app (goodIn_of _ (by decide +kernel)) ggX3_append_X3_requireRange
set_option maxRecDepth 20000 in
theorem ggX3_append_X1_add : GoodIn wsX3_append wsX1_add := goodIn_r _ [13, 14, 15, 23, 24, 25] (by decide +kernel) (by decide +kernel)
set_option maxRecDepth 20000 in
theorem gX3_append_X1_add_n186 : GoodIn wsX3_append (wsX1_add) := ggX3_append_X1_add
theorem dX3_append_0 : decode cX3_append 0 = .ok (.iload_n 1, 1) := by decide +kernel
theorem dX3_append_1 : decode cX3_append 1 = .ok (.iconst 0, 1) := by decide +kernel
theorem dX3_append_2 : decode cX3_append 2 = .ok (.bipush 127, 2) := by decide +kernel
theorem dX3_append_4 : decode cX3_append 4 = .ok (.invokestatic 49, 3) := by decide +kernel
theorem dX3_append_7 : decode cX3_append 7 = .ok (.aload_n 0, 1) := by decide +kernel
theorem dX3_append_8 : decode cX3_append 8 = .ok (.getfield 27, 3) := by decide +kernel
theorem dX3_append_11 : decode cX3_append 11 = .ok (.getfield 181, 3) := by decide +kernel
theorem dX3_append_14 : decode cX3_append 14 = .ok (.sipush 150, 3) := by decide +kernel
theorem dX3_append_17 : decode cX3_append 17 = .ok (.if_icmp .lt 13, 3) := by decide +kernel
theorem dX3_append_20 : decode cX3_append 20 = .ok (.new 56, 3) := by decide +kernel
theorem dX3_append_23 : decode cX3_append 23 = .ok (.dup, 1) := by decide +kernel
theorem dX3_append_24 : decode cX3_append 24 = .ok (.ldc 184, 2) := by decide +kernel
theorem dX3_append_26 : decode cX3_append 26 = .ok (.invokespecial 60, 3) := by decide +kernel
theorem dX3_append_29 : decode cX3_append 29 = .ok (.athrow, 1) := by decide +kernel
theorem dX3_append_30 : decode cX3_append 30 = .ok (.aload_n 0, 1) := by decide +kernel
theorem dX3_append_31 : decode cX3_append 31 = .ok (.getfield 27, 3) := by decide +kernel
theorem dX3_append_34 : decode cX3_append 34 = .ok (.iload_n 1, 1) := by decide +kernel
theorem dX3_append_35 : decode cX3_append 35 = .ok (.invokevirtual 186, 3) := by decide +kernel
theorem dX3_append_38 : decode cX3_append 38 = .ok (.aload_n 0, 1) := by decide +kernel
theorem dX3_append_39 : decode cX3_append 39 = .ok (.getfield 27, 3) := by decide +kernel
theorem dX3_append_42 : decode cX3_append 42 = .ok (.getfield 181, 3) := by decide +kernel
theorem dX3_append_45 : decode cX3_append 45 = .ok (.ireturn, 1) := by decide +kernel
theorem dX3_clearText_0 : decode cX3_clearText 0 = .ok (.aload_n 0, 1) := by decide +kernel
theorem dX3_clearText_1 : decode cX3_clearText 1 = .ok (.getfield 27, 3) := by decide +kernel
theorem dX3_clearText_4 : decode cX3_clearText 4 = .ok (.getfield 181, 3) := by decide +kernel
theorem dX3_clearText_7 : decode cX3_clearText 7 = .ok (.istore_n 1, 1) := by decide +kernel
theorem dX3_clearText_8 : decode cX3_clearText 8 = .ok (.aload_n 0, 1) := by decide +kernel
theorem dX3_clearText_9 : decode cX3_clearText 9 = .ok (.getfield 27, 3) := by decide +kernel
theorem dX3_clearText_12 : decode cX3_clearText 12 = .ok (.iconst 0, 1) := by decide +kernel
theorem dX3_clearText_13 : decode cX3_clearText 13 = .ok (.putfield 181, 3) := by decide +kernel
theorem dX3_clearText_16 : decode cX3_clearText 16 = .ok (.iload_n 1, 1) := by decide +kernel
theorem dX3_clearText_17 : decode cX3_clearText 17 = .ok (.ireturn, 1) := by decide +kernel
set_option maxRecDepth 20000 in
theorem ggX3_parse_X3_curveNumbered : GoodIn wsX3_parse wsX3_curveNumbered := goodIn_ca (goodIn_r _ [7, 8, 9, 10, 93, 94, 95, 96, 97, 98, 99, 102] (by decide +kernel) (by decide +kernel)) (goodIn_sub (fun _ h => List.mem_cons_of_mem _ (List.mem_append_left _ (List.mem_append_right _ h))) (by decide +kernel))
set_option maxRecDepth 20000 in
theorem gX3_parse_X3_curveNumbered : GoodIn wsX3_parse (wsV RX3 45 RX3 yX3_curveNumbered wsX3_curveNumbered) := goodIn_app (goodIn_of _ (by decide +kernel)) ggX3_parse_X3_curveNumbered
set_option maxRecDepth 20000 in
theorem ggX3_parse_X1_readInto : GoodIn wsX3_parse wsX1_readInto := goodIn_r _ [14, 15, 16, 17, 18, 19, 12, 20, 21, 22, 23, 24, 25, 26, 27, 28, 29, 30, 31, 32, 33, 34, 35, 36, 37, 38, 39, 40, 41, 42, 43, 44, 45, 46, 47, 48, 49, 50, 51, 52, 53, 54, 55, 56, 57, 58, 59, 60, 61, 62, 100, 101, 103, 104, 105] (by decide +kernel) (by decide +kernel)
set_option maxRecDepth 20000 in
theorem gX3_parse_X1_readInto_n189 : GoodIn wsX3_parse (wsX1_readInto) := ggX3_parse_X1_readInto
set_option maxRecDepth 20000 in
theorem ggX3_parse_X3_requireNoLock : GoodIn wsX3_parse wsX3_requireNoLock := goodIn_ca (goodIn_r _ [65, 66, 67, 68, 31, 69, 70, 34, 71, 72, 73, 74, 35, 36, 37, 38, 39, 100, 101] (by decide +kernel) (by decide +kernel)) (goodIn_sub (fun _ h => List.mem_cons_of_mem _ (List.mem_append_right _ h)) (by decide +kernel))
set_option maxRecDepth 20000 in
theorem gX3_parse_X3_requireNoLock : GoodIn wsX3_parse (va_wsS RX3 118 yX3_requireNoLock wsX3_requireNoLock) := goodIn_app (goodIn_of _ (by decide +kernel)) ggX3_parse_X3_requireNoLock
set_option maxRecDepth 20000 in
theorem ggX3_parse_X3_saveState : GoodIn wsX3_parse wsX3_saveState := goodIn_r _ [78, 79, 80, 10, 81, 82, 83, 6, 84, 85, 86, 87, 88, 89, 90, 31, 91, 92, 34, 39, 51, 52, 53, 54, 93, 94, 95, 96, 97, 98, 99, 102, 100, 101] (by decide +kernel) (by decide +kernel)
set_option maxRecDepth 20000 in
theorem gX3_parse_X3_saveState : GoodIn wsX3_parse (wsV RX3 69 RX3 yX3_saveState wsX3_saveState) := goodIn_app (goodIn_of _ (by decide +kernel)) ggX3_parse_X3_saveState
set_option maxRecDepth 20000 in
theorem ggX3_parse_X0_become : GoodIn wsX3_parse wsX0_become := goodIn_r _ [92, 34, 39, 51, 52, 53, 54, 100, 101] (by decide +kernel) (by decide +kernel)
set_option maxRecDepth 20000 in
theorem gX3_parse_X0_become_n128 : GoodIn wsX3_parse (wsX0_become) := ggX3_parse_X0_become
theorem dX3_parse_0 : decode cX3_parse 0 = .ok (.aload_n 0, 1) := by decide +kernel
theorem dX3_parse_1 : decode cX3_parse 1 = .ok (.iload_n 1, 1) := by decide +kernel
theorem dX3_parse_2 : decode cX3_parse 2 = .ok (.invokevirtual 45, 3) := by decide +kernel
theorem dX3_parse_5 : decode cX3_parse 5 = .ok (.astore_n 2, 1) := by decide +kernel
theorem dX3_parse_6 : decode cX3_parse 6 = .ok (.aload_n 0, 1) := by decide +kernel
theorem dX3_parse_7 : decode cX3_parse 7 = .ok (.getfield 27, 3) := by decide +kernel
theorem dX3_parse_10 : decode cX3_parse 10 = .ok (.aload_n 0, 1) := by decide +kernel
theorem dX3_parse_11 : decode cX3_parse 11 = .ok (.getfield 34, 3) := by decide +kernel
theorem dX3_parse_14 : decode cX3_parse 14 = .ok (.invokevirtual 189, 3) := by decide +kernel
theorem dX3_parse_17 : decode cX3_parse 17 = .ok (.istore_n 3, 1) := by decide +kernel
theorem dX3_parse_18 : decode cX3_parse 18 = .ok (.iload_n 3, 1) := by decide +kernel
theorem dX3_parse_19 : decode cX3_parse 19 = .ok (.iconst (-1), 1) := by decide +kernel
theorem dX3_parse_20 : decode cX3_parse 20 = .ok (.if_icmp .eq 8, 3) := by decide +kernel
theorem dX3_parse_23 : decode cX3_parse 23 = .ok (.bipush (-10), 2) := by decide +kernel
theorem dX3_parse_25 : decode cX3_parse 25 = .ok (.iload_n 3, 1) := by decide +kernel
theorem dX3_parse_26 : decode cX3_parse 26 = .ok (.isub, 1) := by decide +kernel
theorem dX3_parse_27 : decode cX3_parse 27 = .ok (.ireturn, 1) := by decide +kernel
theorem dX3_parse_28 : decode cX3_parse 28 = .ok (.aload_n 2, 1) := by decide +kernel
theorem dX3_parse_29 : decode cX3_parse 29 = .ok (.invokestatic 118, 3) := by decide +kernel
theorem dX3_parse_32 : decode cX3_parse 32 = .ok (.aload_n 0, 1) := by decide +kernel
theorem dX3_parse_33 : decode cX3_parse 33 = .ok (.invokevirtual 69, 3) := by decide +kernel
theorem dX3_parse_36 : decode cX3_parse 36 = .ok (.aload_n 2, 1) := by decide +kernel
theorem dX3_parse_37 : decode cX3_parse 37 = .ok (.aload_n 0, 1) := by decide +kernel
theorem dX3_parse_38 : decode cX3_parse 38 = .ok (.getfield 34, 3) := by decide +kernel
theorem dX3_parse_41 : decode cX3_parse 41 = .ok (.invokevirtual 128, 3) := by decide +kernel
theorem dX3_parse_44 : decode cX3_parse 44 = .ok (.aload_n 2, 1) := by decide +kernel
theorem dX3_parse_45 : decode cX3_parse 45 = .ok (.getfield 53, 3) := by decide +kernel
theorem dX3_parse_48 : decode cX3_parse 48 = .ok (.ireturn, 1) := by decide +kernel
set_option maxRecDepth 20000 in
theorem ggX3_undo_X2_become : GoodIn wsX3_undo wsX2_become := goodIn_r _ [9, 10, 11, 12, 13, 14, 15, 16, 17, 18, 19, 20, 28, 29, 30] (by decide +kernel) (by decide +kernel)
set_option maxRecDepth 20000 in
theorem gX3_undo_X2_become_n195 : GoodIn wsX3_undo (wsX2_become) := ggX3_undo_X2_become
theorem dX3_undo_0 : decode cX3_undo 0 = .ok (.aload_n 0, 1) := by decide +kernel
theorem dX3_undo_1 : decode cX3_undo 1 = .ok (.getfield 20, 3) := by decide +kernel
theorem dX3_undo_4 : decode cX3_undo 4 = .ok (.ifCond .gt 13, 3) := by decide +kernel
theorem dX3_undo_7 : decode cX3_undo 7 = .ok (.new 56, 3) := by decide +kernel
theorem dX3_undo_10 : decode cX3_undo 10 = .ok (.dup, 1) := by decide +kernel
theorem dX3_undo_11 : decode cX3_undo 11 = .ok (.ldc 193, 2) := by decide +kernel
theorem dX3_undo_13 : decode cX3_undo 13 = .ok (.invokespecial 60, 3) := by decide +kernel
theorem dX3_undo_16 : decode cX3_undo 16 = .ok (.athrow, 1) := by decide +kernel
theorem dX3_undo_17 : decode cX3_undo 17 = .ok (.aload_n 0, 1) := by decide +kernel
theorem dX3_undo_18 : decode cX3_undo 18 = .ok (.dup, 1) := by decide +kernel
theorem dX3_undo_19 : decode cX3_undo 19 = .ok (.getfield 20, 3) := by decide +kernel
theorem dX3_undo_22 : decode cX3_undo 22 = .ok (.iconst 1, 1) := by decide +kernel
theorem dX3_undo_23 : decode cX3_undo 23 = .ok (.isub, 1) := by decide +kernel
theorem dX3_undo_24 : decode cX3_undo 24 = .ok (.putfield 20, 3) := by decide +kernel
theorem dX3_undo_27 : decode cX3_undo 27 = .ok (.aload_n 0, 1) := by decide +kernel
theorem dX3_undo_28 : decode cX3_undo 28 = .ok (.getfield 12, 3) := by decide +kernel
theorem dX3_undo_31 : decode cX3_undo 31 = .ok (.aload_n 0, 1) := by decide +kernel
theorem dX3_undo_32 : decode cX3_undo 32 = .ok (.getfield 16, 3) := by decide +kernel
theorem dX3_undo_35 : decode cX3_undo 35 = .ok (.aload_n 0, 1) := by decide +kernel
theorem dX3_undo_36 : decode cX3_undo 36 = .ok (.getfield 20, 3) := by decide +kernel
theorem dX3_undo_39 : decode cX3_undo 39 = .ok (.aaload, 1) := by decide +kernel
theorem dX3_undo_40 : decode cX3_undo 40 = .ok (.invokevirtual 195, 3) := by decide +kernel
theorem dX3_undo_43 : decode cX3_undo 43 = .ok (.aload_n 0, 1) := by decide +kernel
theorem dX3_undo_44 : decode cX3_undo 44 = .ok (.getfield 20, 3) := by decide +kernel
theorem dX3_undo_47 : decode cX3_undo 47 = .ok (.ireturn, 1) := by decide +kernel
set_option maxRecDepth 20000 in
theorem ggX3_digest_X3_digestOfCurve : GoodIn wsX3_digest wsX3_digestOfCurve := goodIn_r _ [9, 4, 10, 11, 8, 12, 13, 14, 15, 16, 17, 18, 19, 20, 21, 22, 23, 24, 25, 26, 27, 28, 29, 30, 31, 32, 33, 34, 35, 36, 37, 38, 39, 40, 41, 42, 43, 44, 45, 46, 47, 48, 49, 50, 62, 63] (by decide +kernel) (by decide +kernel)
set_option maxRecDepth 20000 in
theorem gX3_digest_X3_digestOfCurve : GoodIn wsX3_digest (va_wsS RX3 204 yX3_digestOfCurve wsX3_digestOfCurve) := goodIn_app (goodIn_of _ (by decide +kernel)) ggX3_digest_X3_digestOfCurve
theorem dX3_digest_0 : decode cX3_digest 0 = .ok (.ldc2_w 198, 3) := by decide +kernel
theorem dX3_digest_3 : decode cX3_digest 3 = .ok (.aload_n 0, 1) := by decide +kernel
theorem dX3_digest_4 : decode cX3_digest 4 = .ok (.getfield 27, 3) := by decide +kernel
theorem dX3_digest_7 : decode cX3_digest 7 = .ok (.getfield 181, 3) := by decide +kernel
theorem dX3_digest_10 : decode cX3_digest 10 = .ok (.i2l, 1) := by decide +kernel
theorem dX3_digest_11 : decode cX3_digest 11 = .ok (.ladd, 1) := by decide +kernel
theorem dX3_digest_12 : decode cX3_digest 12 = .ok (.lstore_n 1, 1) := by decide +kernel
theorem dX3_digest_13 : decode cX3_digest 13 = .ok (.iconst 0, 1) := by decide +kernel
theorem dX3_digest_14 : decode cX3_digest 14 = .ok (.istore_n 3, 1) := by decide +kernel
theorem dX3_digest_15 : decode cX3_digest 15 = .ok (.iload_n 3, 1) := by decide +kernel
theorem dX3_digest_16 : decode cX3_digest 16 = .ok (.iconst 4, 1) := by decide +kernel
theorem dX3_digest_17 : decode cX3_digest 17 = .ok (.if_icmp .ge 23, 3) := by decide +kernel
theorem dX3_digest_20 : decode cX3_digest 20 = .ok (.lload_n 1, 1) := by decide +kernel
theorem dX3_digest_21 : decode cX3_digest 21 = .ok (.aload_n 0, 1) := by decide +kernel
theorem dX3_digest_22 : decode cX3_digest 22 = .ok (.getfield 12, 3) := by decide +kernel
theorem dX3_digest_25 : decode cX3_digest 25 = .ok (.getfield 200, 3) := by decide +kernel
theorem dX3_digest_28 : decode cX3_digest 28 = .ok (.iload_n 3, 1) := by decide +kernel
theorem dX3_digest_29 : decode cX3_digest 29 = .ok (.aaload, 1) := by decide +kernel
theorem dX3_digest_30 : decode cX3_digest 30 = .ok (.invokestatic 204, 3) := by decide +kernel
theorem dX3_digest_33 : decode cX3_digest 33 = .ok (.lstore_n 1, 1) := by decide +kernel
theorem dX3_digest_34 : decode cX3_digest 34 = .ok (.iinc 3 1, 3) := by decide +kernel
theorem dX3_digest_37 : decode cX3_digest 37 = .ok (.goto (-22), 3) := by decide +kernel
theorem dX3_digest_40 : decode cX3_digest 40 = .ok (.ldc2_w 208, 3) := by decide +kernel
theorem dX3_digest_43 : decode cX3_digest 43 = .ok (.lload_n 1, 1) := by decide +kernel
theorem dX3_digest_44 : decode cX3_digest 44 = .ok (.lmul, 1) := by decide +kernel
theorem dX3_digest_45 : decode cX3_digest 45 = .ok (.aload_n 0, 1) := by decide +kernel
theorem dX3_digest_46 : decode cX3_digest 46 = .ok (.getfield 20, 3) := by decide +kernel
theorem dX3_digest_49 : decode cX3_digest 49 = .ok (.i2l, 1) := by decide +kernel
theorem dX3_digest_50 : decode cX3_digest 50 = .ok (.ladd, 1) := by decide +kernel
theorem dX3_digest_51 : decode cX3_digest 51 = .ok (.lreturn, 1) := by decide +kernel
theorem dX3_curveNumbered_0 : decode cX3_curveNumbered 0 = .ok (.iload_n 1, 1) := by decide +kernel
theorem dX3_curveNumbered_1 : decode cX3_curveNumbered 1 = .ok (.ifCond .lt 8, 3) := by decide +kernel
theorem dX3_curveNumbered_4 : decode cX3_curveNumbered 4 = .ok (.iload_n 1, 1) := by decide +kernel
theorem dX3_curveNumbered_5 : decode cX3_curveNumbered 5 = .ok (.iconst 4, 1) := by decide +kernel
theorem dX3_curveNumbered_6 : decode cX3_curveNumbered 6 = .ok (.if_icmp .lt 13, 3) := by decide +kernel
theorem dX3_curveNumbered_9 : decode cX3_curveNumbered 9 = .ok (.new 176, 3) := by decide +kernel
theorem dX3_curveNumbered_12 : decode cX3_curveNumbered 12 = .ok (.dup, 1) := by decide +kernel
theorem dX3_curveNumbered_13 : decode cX3_curveNumbered 13 = .ok (.ldc 210, 2) := by decide +kernel
theorem dX3_curveNumbered_15 : decode cX3_curveNumbered 15 = .ok (.invokespecial 180, 3) := by decide +kernel
theorem dX3_curveNumbered_18 : decode cX3_curveNumbered 18 = .ok (.athrow, 1) := by decide +kernel
theorem dX3_curveNumbered_19 : decode cX3_curveNumbered 19 = .ok (.aload_n 0, 1) := by decide +kernel
theorem dX3_curveNumbered_20 : decode cX3_curveNumbered 20 = .ok (.getfield 12, 3) := by decide +kernel
theorem dX3_curveNumbered_23 : decode cX3_curveNumbered 23 = .ok (.getfield 200, 3) := by decide +kernel
theorem dX3_curveNumbered_26 : decode cX3_curveNumbered 26 = .ok (.iload_n 1, 1) := by decide +kernel
theorem dX3_curveNumbered_27 : decode cX3_curveNumbered 27 = .ok (.aaload, 1) := by decide +kernel
theorem dX3_curveNumbered_28 : decode cX3_curveNumbered 28 = .ok (.areturn, 1) := by decide +kernel
theorem dX3_requireKey_0 : decode cX3_requireKey 0 = .ok (.iload_n 1, 1) := by decide +kernel
theorem dX3_requireKey_1 : decode cX3_requireKey 1 = .ok (.ifCond .lt 11, 3) := by decide +kernel
theorem dX3_requireKey_4 : decode cX3_requireKey 4 = .ok (.iload_n 1, 1) := by decide +kernel
theorem dX3_requireKey_5 : decode cX3_requireKey 5 = .ok (.aload_n 0, 1) := by decide +kernel
theorem dX3_requireKey_6 : decode cX3_requireKey 6 = .ok (.getfield 53, 3) := by decide +kernel
theorem dX3_requireKey_9 : decode cX3_requireKey 9 = .ok (.if_icmp .lt 13, 3) := by decide +kernel
theorem dX3_requireKey_12 : decode cX3_requireKey 12 = .ok (.new 176, 3) := by decide +kernel
theorem dX3_requireKey_15 : decode cX3_requireKey 15 = .ok (.dup, 1) := by decide +kernel
theorem dX3_requireKey_16 : decode cX3_requireKey 16 = .ok (.ldc 212, 2) := by decide +kernel
theorem dX3_requireKey_18 : decode cX3_requireKey 18 = .ok (.invokespecial 180, 3) := by decide +kernel
theorem dX3_requireKey_21 : decode cX3_requireKey 21 = .ok (.athrow, 1) := by decide +kernel
theorem dX3_requireKey_22 : decode cX3_requireKey 22 = .ok (.return_, 1) := by decide +kernel
theorem dX3_requireRange_0 : decode cX3_requireRange 0 = .ok (.iload_n 0, 1) := by decide +kernel
theorem dX3_requireRange_1 : decode cX3_requireRange 1 = .ok (.iload_n 1, 1) := by decide +kernel
theorem dX3_requireRange_2 : decode cX3_requireRange 2 = .ok (.if_icmp .lt 8, 3) := by decide +kernel
theorem dX3_requireRange_5 : decode cX3_requireRange 5 = .ok (.iload_n 0, 1) := by decide +kernel
theorem dX3_requireRange_6 : decode cX3_requireRange 6 = .ok (.iload_n 2, 1) := by decide +kernel
theorem dX3_requireRange_7 : decode cX3_requireRange 7 = .ok (.if_icmp .le 13, 3) := by decide +kernel
theorem dX3_requireRange_10 : decode cX3_requireRange 10 = .ok (.new 214, 3) := by decide +kernel
theorem dX3_requireRange_13 : decode cX3_requireRange 13 = .ok (.dup, 1) := by decide +kernel
theorem dX3_requireRange_14 : decode cX3_requireRange 14 = .ok (.ldc 216, 2) := by decide +kernel
theorem dX3_requireRange_16 : decode cX3_requireRange 16 = .ok (.invokespecial 218, 3) := by decide +kernel
theorem dX3_requireRange_19 : decode cX3_requireRange 19 = .ok (.athrow, 1) := by decide +kernel
theorem dX3_requireRange_20 : decode cX3_requireRange 20 = .ok (.return_, 1) := by decide +kernel
set_option maxRecDepth 20000 in
theorem ggX3_requireFrames_X3_requireRange : GoodIn wsX3_requireFrames wsX3_requireRange := goodIn_ca (goodIn_r _ [4, 5, 6] (by decide +kernel) (by decide +kernel)) (goodIn_sub (fun _ h => List.mem_cons_of_mem _ (List.mem_append_right _ h)) (by decide +kernel))
set_option maxRecDepth 20000 in
theorem gX3_requireFrames_X3_requireRange : GoodIn wsX3_requireFrames (va_wsS RX3 49 yX3_requireRange wsX3_requireRange) := goodIn_app (goodIn_of _ (by decide +kernel)) ggX3_requireFrames_X3_requireRange
theorem dX3_requireFrames_0 : decode cX3_requireFrames 0 = .ok (.iload_n 0, 1) := by decide +kernel
theorem dX3_requireFrames_1 : decode cX3_requireFrames 1 = .ok (.iconst 0, 1) := by decide +kernel
theorem dX3_requireFrames_2 : decode cX3_requireFrames 2 = .ok (.sipush 999, 3) := by decide +kernel
theorem dX3_requireFrames_5 : decode cX3_requireFrames 5 = .ok (.invokestatic 49, 3) := by decide +kernel
theorem dX3_requireFrames_8 : decode cX3_requireFrames 8 = .ok (.iload_n 1, 1) := by decide +kernel
theorem dX3_requireFrames_9 : decode cX3_requireFrames 9 = .ok (.iload_n 0, 1) := by decide +kernel
theorem dX3_requireFrames_10 : decode cX3_requireFrames 10 = .ok (.sipush 999, 3) := by decide +kernel
theorem dX3_requireFrames_13 : decode cX3_requireFrames 13 = .ok (.invokestatic 49, 3) := by decide +kernel
theorem dX3_requireFrames_16 : decode cX3_requireFrames 16 = .ok (.return_, 1) := by decide +kernel
set_option maxRecDepth 20000 in
theorem ggX3_requireSpan_X3_requireRange : GoodIn wsX3_requireSpan wsX3_requireRange := goodIn_ca (goodIn_r _ [4, 5, 6] (by decide +kernel) (by decide +kernel)) (goodIn_sub (fun _ h => List.mem_cons_of_mem _ (List.mem_append_right _ h)) (by decide +kernel))
set_option maxRecDepth 20000 in
theorem gX3_requireSpan_X3_requireRange : GoodIn wsX3_requireSpan (va_wsS RX3 49 yX3_requireRange wsX3_requireRange) := goodIn_app (goodIn_of _ (by decide +kernel)) ggX3_requireSpan_X3_requireRange
theorem dX3_requireSpan_0 : decode cX3_requireSpan 0 = .ok (.iload_n 0, 1) := by decide +kernel
theorem dX3_requireSpan_1 : decode cX3_requireSpan 1 = .ok (.iconst 0, 1) := by decide +kernel
theorem dX3_requireSpan_2 : decode cX3_requireSpan 2 = .ok (.sipush 998, 3) := by decide +kernel
theorem dX3_requireSpan_5 : decode cX3_requireSpan 5 = .ok (.invokestatic 49, 3) := by decide +kernel
theorem dX3_requireSpan_8 : decode cX3_requireSpan 8 = .ok (.iload_n 1, 1) := by decide +kernel
theorem dX3_requireSpan_9 : decode cX3_requireSpan 9 = .ok (.iload_n 0, 1) := by decide +kernel
theorem dX3_requireSpan_10 : decode cX3_requireSpan 10 = .ok (.iconst 1, 1) := by decide +kernel
theorem dX3_requireSpan_11 : decode cX3_requireSpan 11 = .ok (.iadd, 1) := by decide +kernel
theorem dX3_requireSpan_12 : decode cX3_requireSpan 12 = .ok (.sipush 999, 3) := by decide +kernel
theorem dX3_requireSpan_15 : decode cX3_requireSpan 15 = .ok (.invokestatic 49, 3) := by decide +kernel
theorem dX3_requireSpan_18 : decode cX3_requireSpan 18 = .ok (.return_, 1) := by decide +kernel
set_option maxRecDepth 20000 in
theorem ggX3_requireUnlocked_X0_isLocked : GoodIn wsX3_requireUnlocked wsX0_isLocked := goodIn_r _ [6, 7, 8, 9, 4, 10, 11, 12, 13, 14] (by decide +kernel) (by decide +kernel)
set_option maxRecDepth 20000 in
theorem gX3_requireUnlocked_X0_isLocked_n219 : GoodIn wsX3_requireUnlocked (wsX0_isLocked) := ggX3_requireUnlocked_X0_isLocked
theorem dX3_requireUnlocked_0 : decode cX3_requireUnlocked 0 = .ok (.aload_n 0, 1) := by decide +kernel
theorem dX3_requireUnlocked_1 : decode cX3_requireUnlocked 1 = .ok (.iload_n 1, 1) := by decide +kernel
theorem dX3_requireUnlocked_2 : decode cX3_requireUnlocked 2 = .ok (.invokevirtual 219, 3) := by decide +kernel
theorem dX3_requireUnlocked_5 : decode cX3_requireUnlocked 5 = .ok (.ifCond .eq 13, 3) := by decide +kernel
theorem dX3_requireUnlocked_8 : decode cX3_requireUnlocked 8 = .ok (.new 56, 3) := by decide +kernel
theorem dX3_requireUnlocked_11 : decode cX3_requireUnlocked 11 = .ok (.dup, 1) := by decide +kernel
theorem dX3_requireUnlocked_12 : decode cX3_requireUnlocked 12 = .ok (.ldc 222, 2) := by decide +kernel
theorem dX3_requireUnlocked_14 : decode cX3_requireUnlocked 14 = .ok (.invokespecial 60, 3) := by decide +kernel
theorem dX3_requireUnlocked_17 : decode cX3_requireUnlocked 17 = .ok (.athrow, 1) := by decide +kernel
theorem dX3_requireUnlocked_18 : decode cX3_requireUnlocked 18 = .ok (.return_, 1) := by decide +kernel
set_option maxRecDepth 20000 in
theorem ggX3_requireNoLock_X0_hasLock : GoodIn wsX3_requireNoLock wsX0_hasLock := goodIn_r _ [6, 7, 8, 9, 10, 4, 11, 12, 13, 14, 15, 16, 17, 18] (by decide +kernel) (by decide +kernel)
set_option maxRecDepth 20000 in
theorem gX3_requireNoLock_X0_hasLock_n224 : GoodIn wsX3_requireNoLock (wsX0_hasLock) := ggX3_requireNoLock_X0_hasLock
theorem dX3_requireNoLock_0 : decode cX3_requireNoLock 0 = .ok (.aload_n 0, 1) := by decide +kernel
theorem dX3_requireNoLock_1 : decode cX3_requireNoLock 1 = .ok (.invokevirtual 224, 3) := by decide +kernel
theorem dX3_requireNoLock_4 : decode cX3_requireNoLock 4 = .ok (.ifCond .eq 13, 3) := by decide +kernel
theorem dX3_requireNoLock_7 : decode cX3_requireNoLock 7 = .ok (.new 56, 3) := by decide +kernel
theorem dX3_requireNoLock_10 : decode cX3_requireNoLock 10 = .ok (.dup, 1) := by decide +kernel
theorem dX3_requireNoLock_11 : decode cX3_requireNoLock 11 = .ok (.ldc 228, 2) := by decide +kernel
theorem dX3_requireNoLock_13 : decode cX3_requireNoLock 13 = .ok (.invokespecial 60, 3) := by decide +kernel
theorem dX3_requireNoLock_16 : decode cX3_requireNoLock 16 = .ok (.athrow, 1) := by decide +kernel
theorem dX3_requireNoLock_17 : decode cX3_requireNoLock 17 = .ok (.return_, 1) := by decide +kernel
set_option maxRecDepth 20000 in
theorem ggX3_saveState_X3_dropOldestState : GoodIn wsX3_saveState wsX3_dropOldestState := goodIn_r _ [8, 2, 1, 24, 25, 26, 27, 28, 29, 30] (by decide +kernel) (by decide +kernel)
set_option maxRecDepth 20000 in
theorem gX3_saveState_X3_dropOldestState : GoodIn wsX3_saveState (wsV RX3 230 RX3 yX3_dropOldestState wsX3_dropOldestState) := goodIn_app (goodIn_of _ (by decide +kernel)) ggX3_saveState_X3_dropOldestState
set_option maxRecDepth 20000 in
theorem ggX3_saveState_X2_become : GoodIn wsX3_saveState wsX2_become := goodIn_r _ [12, 13, 14, 15, 16, 17, 18, 19, 20, 21, 22, 23, 31, 32, 33] (by decide +kernel) (by decide +kernel)
set_option maxRecDepth 20000 in
theorem gX3_saveState_X2_become_n195 : GoodIn wsX3_saveState (wsX2_become) := ggX3_saveState_X2_become
theorem dX3_saveState_0 : decode cX3_saveState 0 = .ok (.aload_n 0, 1) := by decide +kernel
theorem dX3_saveState_1 : decode cX3_saveState 1 = .ok (.getfield 20, 3) := by decide +kernel
theorem dX3_saveState_4 : decode cX3_saveState 4 = .ok (.iconst 4, 1) := by decide +kernel
theorem dX3_saveState_5 : decode cX3_saveState 5 = .ok (.if_icmp .lt 7, 3) := by decide +kernel
theorem dX3_saveState_8 : decode cX3_saveState 8 = .ok (.aload_n 0, 1) := by decide +kernel
theorem dX3_saveState_9 : decode cX3_saveState 9 = .ok (.invokevirtual 230, 3) := by decide +kernel
theorem dX3_saveState_12 : decode cX3_saveState 12 = .ok (.aload_n 0, 1) := by decide +kernel
theorem dX3_saveState_13 : decode cX3_saveState 13 = .ok (.getfield 16, 3) := by decide +kernel
theorem dX3_saveState_16 : decode cX3_saveState 16 = .ok (.aload_n 0, 1) := by decide +kernel
theorem dX3_saveState_17 : decode cX3_saveState 17 = .ok (.getfield 20, 3) := by decide +kernel
theorem dX3_saveState_20 : decode cX3_saveState 20 = .ok (.aaload, 1) := by decide +kernel
theorem dX3_saveState_21 : decode cX3_saveState 21 = .ok (.aload_n 0, 1) := by decide +kernel
theorem dX3_saveState_22 : decode cX3_saveState 22 = .ok (.getfield 12, 3) := by decide +kernel
theorem dX3_saveState_25 : decode cX3_saveState 25 = .ok (.invokevirtual 195, 3) := by decide +kernel
theorem dX3_saveState_28 : decode cX3_saveState 28 = .ok (.aload_n 0, 1) := by decide +kernel
theorem dX3_saveState_29 : decode cX3_saveState 29 = .ok (.dup, 1) := by decide +kernel
theorem dX3_saveState_30 : decode cX3_saveState 30 = .ok (.getfield 20, 3) := by decide +kernel
theorem dX3_saveState_33 : decode cX3_saveState 33 = .ok (.iconst 1, 1) := by decide +kernel
theorem dX3_saveState_34 : decode cX3_saveState 34 = .ok (.iadd, 1) := by decide +kernel
theorem dX3_saveState_35 : decode cX3_saveState 35 = .ok (.putfield 20, 3) := by decide +kernel
theorem dX3_saveState_38 : decode cX3_saveState 38 = .ok (.return_, 1) := by decide +kernel
theorem dX3_dropOldestState_0 : decode cX3_dropOldestState 0 = .ok (.aload_n 0, 1) := by decide +kernel
theorem dX3_dropOldestState_1 : decode cX3_dropOldestState 1 = .ok (.getfield 16, 3) := by decide +kernel
theorem dX3_dropOldestState_4 : decode cX3_dropOldestState 4 = .ok (.iconst 0, 1) := by decide +kernel
theorem dX3_dropOldestState_5 : decode cX3_dropOldestState 5 = .ok (.aaload, 1) := by decide +kernel
theorem dX3_dropOldestState_6 : decode cX3_dropOldestState 6 = .ok (.astore_n 1, 1) := by decide +kernel
theorem dX3_dropOldestState_7 : decode cX3_dropOldestState 7 = .ok (.iconst 1, 1) := by decide +kernel
theorem dX3_dropOldestState_8 : decode cX3_dropOldestState 8 = .ok (.istore_n 2, 1) := by decide +kernel
theorem dX3_dropOldestState_9 : decode cX3_dropOldestState 9 = .ok (.iload_n 2, 1) := by decide +kernel
theorem dX3_dropOldestState_10 : decode cX3_dropOldestState 10 = .ok (.iconst 4, 1) := by decide +kernel
theorem dX3_dropOldestState_11 : decode cX3_dropOldestState 11 = .ok (.if_icmp .ge 23, 3) := by decide +kernel
theorem dX3_dropOldestState_14 : decode cX3_dropOldestState 14 = .ok (.aload_n 0, 1) := by decide +kernel
theorem dX3_dropOldestState_15 : decode cX3_dropOldestState 15 = .ok (.getfield 16, 3) := by decide +kernel
theorem dX3_dropOldestState_18 : decode cX3_dropOldestState 18 = .ok (.iload_n 2, 1) := by decide +kernel
theorem dX3_dropOldestState_19 : decode cX3_dropOldestState 19 = .ok (.iconst 1, 1) := by decide +kernel
theorem dX3_dropOldestState_20 : decode cX3_dropOldestState 20 = .ok (.isub, 1) := by decide +kernel
theorem dX3_dropOldestState_21 : decode cX3_dropOldestState 21 = .ok (.aload_n 0, 1) := by decide +kernel
theorem dX3_dropOldestState_22 : decode cX3_dropOldestState 22 = .ok (.getfield 16, 3) := by decide +kernel
theorem dX3_dropOldestState_25 : decode cX3_dropOldestState 25 = .ok (.iload_n 2, 1) := by decide +kernel
theorem dX3_dropOldestState_26 : decode cX3_dropOldestState 26 = .ok (.aaload, 1) := by decide +kernel
theorem dX3_dropOldestState_27 : decode cX3_dropOldestState 27 = .ok (.aastore, 1) := by decide +kernel
theorem dX3_dropOldestState_28 : decode cX3_dropOldestState 28 = .ok (.iinc 2 1, 3) := by decide +kernel
theorem dX3_dropOldestState_31 : decode cX3_dropOldestState 31 = .ok (.goto (-22), 3) := by decide +kernel
theorem dX3_dropOldestState_34 : decode cX3_dropOldestState 34 = .ok (.aload_n 0, 1) := by decide +kernel
theorem dX3_dropOldestState_35 : decode cX3_dropOldestState 35 = .ok (.getfield 16, 3) := by decide +kernel
theorem dX3_dropOldestState_38 : decode cX3_dropOldestState 38 = .ok (.iconst 3, 1) := by decide +kernel
theorem dX3_dropOldestState_39 : decode cX3_dropOldestState 39 = .ok (.aload_n 1, 1) := by decide +kernel
theorem dX3_dropOldestState_40 : decode cX3_dropOldestState 40 = .ok (.aastore, 1) := by decide +kernel
theorem dX3_dropOldestState_41 : decode cX3_dropOldestState 41 = .ok (.aload_n 0, 1) := by decide +kernel
theorem dX3_dropOldestState_42 : decode cX3_dropOldestState 42 = .ok (.iconst 3, 1) := by decide +kernel
theorem dX3_dropOldestState_43 : decode cX3_dropOldestState 43 = .ok (.putfield 20, 3) := by decide +kernel
theorem dX3_dropOldestState_46 : decode cX3_dropOldestState 46 = .ok (.return_, 1) := by decide +kernel
set_option maxRecDepth 20000 in
theorem ggX3_aboutKey_X0_tangentOf : GoodIn wsX3_aboutKey wsX0_tangentOf := goodIn_r _ [4, 5, 6, 7, 8, 2, 9, 10, 11, 12, 13, 14, 15] (by decide +kernel) (by decide +kernel)
set_option maxRecDepth 20000 in
theorem gX3_aboutKey_X0_tangentOf_n101 : GoodIn wsX3_aboutKey (wsX0_tangentOf) := ggX3_aboutKey_X0_tangentOf
set_option maxRecDepth 20000 in
theorem ggX3_aboutKey_X0_cell : GoodIn wsX3_aboutKey wsX0_cell := goodIn_r _ [9, 5, 10, 14, 15] (by decide +kernel) (by decide +kernel)
set_option maxRecDepth 20000 in
theorem gX3_aboutKey_X0_cell_n87 : GoodIn wsX3_aboutKey (wsX0_cell) := ggX3_aboutKey_X0_cell
theorem dX3_aboutKey_0 : decode cX3_aboutKey 0 = .ok (.iload_n 2, 1) := by decide +kernel
theorem dX3_aboutKey_1 : decode cX3_aboutKey 1 = .ok (.lookupswitch 40 #[(5, 27), (6, 33)], 27) := by decide +kernel
theorem dX3_aboutKey_28 : decode cX3_aboutKey 28 = .ok (.aload_n 0, 1) := by decide +kernel
theorem dX3_aboutKey_29 : decode cX3_aboutKey 29 = .ok (.iload_n 1, 1) := by decide +kernel
theorem dX3_aboutKey_30 : decode cX3_aboutKey 30 = .ok (.invokevirtual 101, 3) := by decide +kernel
theorem dX3_aboutKey_33 : decode cX3_aboutKey 33 = .ok (.ireturn, 1) := by decide +kernel
theorem dX3_aboutKey_34 : decode cX3_aboutKey 34 = .ok (.aload_n 0, 1) := by decide +kernel
theorem dX3_aboutKey_35 : decode cX3_aboutKey 35 = .ok (.iload_n 1, 1) := by decide +kernel
theorem dX3_aboutKey_36 : decode cX3_aboutKey 36 = .ok (.iconst 5, 1) := by decide +kernel
theorem dX3_aboutKey_37 : decode cX3_aboutKey 37 = .ok (.invokevirtual 87, 3) := by decide +kernel
theorem dX3_aboutKey_40 : decode cX3_aboutKey 40 = .ok (.ireturn, 1) := by decide +kernel
theorem dX3_aboutKey_41 : decode cX3_aboutKey 41 = .ok (.aload_n 0, 1) := by decide +kernel
theorem dX3_aboutKey_42 : decode cX3_aboutKey 42 = .ok (.iload_n 1, 1) := by decide +kernel
theorem dX3_aboutKey_43 : decode cX3_aboutKey 43 = .ok (.iload_n 2, 1) := by decide +kernel
theorem dX3_aboutKey_44 : decode cX3_aboutKey 44 = .ok (.invokevirtual 87, 3) := by decide +kernel
theorem dX3_aboutKey_47 : decode cX3_aboutKey 47 = .ok (.ireturn, 1) := by decide +kernel
set_option maxRecDepth 20000 in
theorem ggX3_digestOfCurve_X3_aboutKey : GoodIn wsX3_digestOfCurve wsX3_aboutKey := goodIn_r _ [5, 6, 7, 8, 9, 10, 11, 12, 13, 14, 15, 16, 17, 18, 44, 45] (by decide +kernel) (by decide +kernel)
set_option maxRecDepth 20000 in
theorem gX3_digestOfCurve_X3_aboutKey : GoodIn wsX3_digestOfCurve (va_wsS RX3 138 yX3_aboutKey wsX3_aboutKey) := goodIn_app (goodIn_of _ (by decide +kernel)) ggX3_digestOfCurve_X3_aboutKey
set_option maxRecDepth 20000 in
theorem ggX3_digestOfCurve_X0_valueAt : GoodIn wsX3_digestOfCurve wsX0_valueAt := goodIn_r _ [21, 22, 23, 24, 7, 25, 10, 11, 12, 13, 14, 15, 26, 27, 28, 29, 30, 31, 32, 33, 34, 35, 36, 37, 38, 39, 6, 8, 9, 16, 17, 18, 40, 41, 42, 43, 44, 45] (by decide +kernel) (by decide +kernel)
set_option maxRecDepth 20000 in
theorem gX3_digestOfCurve_X0_valueAt_n142 : GoodIn wsX3_digestOfCurve (wsX0_valueAt) := ggX3_digestOfCurve_X0_valueAt
theorem dX3_digestOfCurve_0 : decode cX3_digestOfCurve 0 = .ok (.ldc2_w 208, 3) := by decide +kernel
theorem dX3_digestOfCurve_3 : decode cX3_digestOfCurve 3 = .ok (.lload_n 0, 1) := by decide +kernel
theorem dX3_digestOfCurve_4 : decode cX3_digestOfCurve 4 = .ok (.lmul, 1) := by decide +kernel
theorem dX3_digestOfCurve_5 : decode cX3_digestOfCurve 5 = .ok (.aload_n 2, 1) := by decide +kernel
theorem dX3_digestOfCurve_6 : decode cX3_digestOfCurve 6 = .ok (.getfield 53, 3) := by decide +kernel
theorem dX3_digestOfCurve_9 : decode cX3_digestOfCurve 9 = .ok (.i2l, 1) := by decide +kernel
theorem dX3_digestOfCurve_10 : decode cX3_digestOfCurve 10 = .ok (.ladd, 1) := by decide +kernel
theorem dX3_digestOfCurve_11 : decode cX3_digestOfCurve 11 = .ok (.lstore_n 3, 1) := by decide +kernel
theorem dX3_digestOfCurve_12 : decode cX3_digestOfCurve 12 = .ok (.iconst 0, 1) := by decide +kernel
theorem dX3_digestOfCurve_13 : decode cX3_digestOfCurve 13 = .ok (.istore 5, 2) := by decide +kernel
theorem dX3_digestOfCurve_15 : decode cX3_digestOfCurve 15 = .ok (.iload 5, 2) := by decide +kernel
theorem dX3_digestOfCurve_17 : decode cX3_digestOfCurve 17 = .ok (.aload_n 2, 1) := by decide +kernel
theorem dX3_digestOfCurve_18 : decode cX3_digestOfCurve 18 = .ok (.getfield 53, 3) := by decide +kernel
theorem dX3_digestOfCurve_21 : decode cX3_digestOfCurve 21 = .ok (.if_icmp .ge 41, 3) := by decide +kernel
theorem dX3_digestOfCurve_24 : decode cX3_digestOfCurve 24 = .ok (.iconst 0, 1) := by decide +kernel
theorem dX3_digestOfCurve_25 : decode cX3_digestOfCurve 25 = .ok (.istore 6, 2) := by decide +kernel
theorem dX3_digestOfCurve_27 : decode cX3_digestOfCurve 27 = .ok (.iload 6, 2) := by decide +kernel
theorem dX3_digestOfCurve_29 : decode cX3_digestOfCurve 29 = .ok (.bipush 6, 2) := by decide +kernel
theorem dX3_digestOfCurve_31 : decode cX3_digestOfCurve 31 = .ok (.if_icmp .gt 25, 3) := by decide +kernel
theorem dX3_digestOfCurve_34 : decode cX3_digestOfCurve 34 = .ok (.ldc2_w 208, 3) := by decide +kernel
theorem dX3_digestOfCurve_37 : decode cX3_digestOfCurve 37 = .ok (.lload_n 3, 1) := by decide +kernel
theorem dX3_digestOfCurve_38 : decode cX3_digestOfCurve 38 = .ok (.lmul, 1) := by decide +kernel
theorem dX3_digestOfCurve_39 : decode cX3_digestOfCurve 39 = .ok (.aload_n 2, 1) := by decide +kernel
theorem dX3_digestOfCurve_40 : decode cX3_digestOfCurve 40 = .ok (.iload 5, 2) := by decide +kernel
theorem dX3_digestOfCurve_42 : decode cX3_digestOfCurve 42 = .ok (.iload 6, 2) := by decide +kernel
theorem dX3_digestOfCurve_44 : decode cX3_digestOfCurve 44 = .ok (.invokestatic 138, 3) := by decide +kernel
theorem dX3_digestOfCurve_47 : decode cX3_digestOfCurve 47 = .ok (.i2l, 1) := by decide +kernel
theorem dX3_digestOfCurve_48 : decode cX3_digestOfCurve 48 = .ok (.ladd, 1) := by decide +kernel
theorem dX3_digestOfCurve_49 : decode cX3_digestOfCurve 49 = .ok (.lstore_n 3, 1) := by decide +kernel
theorem dX3_digestOfCurve_50 : decode cX3_digestOfCurve 50 = .ok (.iinc 6 1, 3) := by decide +kernel
theorem dX3_digestOfCurve_53 : decode cX3_digestOfCurve 53 = .ok (.goto (-26), 3) := by decide +kernel
theorem dX3_digestOfCurve_56 : decode cX3_digestOfCurve 56 = .ok (.iinc 5 1, 3) := by decide +kernel
theorem dX3_digestOfCurve_59 : decode cX3_digestOfCurve 59 = .ok (.goto (-44), 3) := by decide +kernel
theorem dX3_digestOfCurve_62 : decode cX3_digestOfCurve 62 = .ok (.iconst 0, 1) := by decide +kernel
theorem dX3_digestOfCurve_63 : decode cX3_digestOfCurve 63 = .ok (.istore 5, 2) := by decide +kernel
theorem dX3_digestOfCurve_65 : decode cX3_digestOfCurve 65 = .ok (.iload 5, 2) := by decide +kernel
theorem dX3_digestOfCurve_67 : decode cX3_digestOfCurve 67 = .ok (.sipush 1000, 3) := by decide +kernel
theorem dX3_digestOfCurve_70 : decode cX3_digestOfCurve 70 = .ok (.if_icmp .ge 23, 3) := by decide +kernel
theorem dX3_digestOfCurve_73 : decode cX3_digestOfCurve 73 = .ok (.ldc2_w 208, 3) := by decide +kernel
theorem dX3_digestOfCurve_76 : decode cX3_digestOfCurve 76 = .ok (.lload_n 3, 1) := by decide +kernel
theorem dX3_digestOfCurve_77 : decode cX3_digestOfCurve 77 = .ok (.lmul, 1) := by decide +kernel
theorem dX3_digestOfCurve_78 : decode cX3_digestOfCurve 78 = .ok (.aload_n 2, 1) := by decide +kernel
theorem dX3_digestOfCurve_79 : decode cX3_digestOfCurve 79 = .ok (.iload 5, 2) := by decide +kernel
theorem dX3_digestOfCurve_81 : decode cX3_digestOfCurve 81 = .ok (.invokevirtual 142, 3) := by decide +kernel
theorem dX3_digestOfCurve_84 : decode cX3_digestOfCurve 84 = .ok (.i2l, 1) := by decide +kernel
theorem dX3_digestOfCurve_85 : decode cX3_digestOfCurve 85 = .ok (.ladd, 1) := by decide +kernel
theorem dX3_digestOfCurve_86 : decode cX3_digestOfCurve 86 = .ok (.lstore_n 3, 1) := by decide +kernel
theorem dX3_digestOfCurve_87 : decode cX3_digestOfCurve 87 = .ok (.iinc 5 37, 3) := by decide +kernel
theorem dX3_digestOfCurve_90 : decode cX3_digestOfCurve 90 = .ok (.goto (-25), 3) := by decide +kernel
theorem dX3_digestOfCurve_93 : decode cX3_digestOfCurve 93 = .ok (.lload_n 3, 1) := by decide +kernel
theorem dX3_digestOfCurve_94 : decode cX3_digestOfCurve 94 = .ok (.lreturn, 1) := by decide +kernel
set_option maxRecDepth 20000 in
theorem ggX3_sumOver_X0_bake : GoodIn wsX3_sumOver wsX0_bake := goodIn_r _ [5, 6, 7, 8, 9, 3, 10, 11, 12, 13, 14, 15, 16, 17, 18, 19, 20, 21, 22, 23, 24, 25, 26, 27, 28, 29, 30, 31, 32, 33, 34, 35, 36, 37, 38, 39, 47, 48] (by decide +kernel) (by decide +kernel)
set_option maxRecDepth 20000 in
theorem gX3_sumOver_X0_bake_n152 : GoodIn wsX3_sumOver (wsX0_bake) := ggX3_sumOver_X0_bake
theorem dX3_sumOver_0 : decode cX3_sumOver 0 = .ok (.aload_n 1, 1) := by decide +kernel
theorem dX3_sumOver_1 : decode cX3_sumOver 1 = .ok (.aload_n 0, 1) := by decide +kernel
theorem dX3_sumOver_2 : decode cX3_sumOver 2 = .ok (.getfield 38, 3) := by decide +kernel
theorem dX3_sumOver_5 : decode cX3_sumOver 5 = .ok (.iload_n 2, 1) := by decide +kernel
theorem dX3_sumOver_6 : decode cX3_sumOver 6 = .ok (.iload_n 3, 1) := by decide +kernel
theorem dX3_sumOver_7 : decode cX3_sumOver 7 = .ok (.invokevirtual 152, 3) := by decide +kernel
theorem dX3_sumOver_10 : decode cX3_sumOver 10 = .ok (.lconst 0, 1) := by decide +kernel
theorem dX3_sumOver_11 : decode cX3_sumOver 11 = .ok (.lstore 4, 2) := by decide +kernel
theorem dX3_sumOver_13 : decode cX3_sumOver 13 = .ok (.iload_n 2, 1) := by decide +kernel
theorem dX3_sumOver_14 : decode cX3_sumOver 14 = .ok (.istore 6, 2) := by decide +kernel
theorem dX3_sumOver_16 : decode cX3_sumOver 16 = .ok (.iload 6, 2) := by decide +kernel
theorem dX3_sumOver_18 : decode cX3_sumOver 18 = .ok (.iload_n 3, 1) := by decide +kernel
theorem dX3_sumOver_19 : decode cX3_sumOver 19 = .ok (.if_icmp .gt 22, 3) := by decide +kernel
theorem dX3_sumOver_22 : decode cX3_sumOver 22 = .ok (.lload 4, 2) := by decide +kernel
theorem dX3_sumOver_24 : decode cX3_sumOver 24 = .ok (.aload_n 0, 1) := by decide +kernel
theorem dX3_sumOver_25 : decode cX3_sumOver 25 = .ok (.getfield 38, 3) := by decide +kernel
theorem dX3_sumOver_28 : decode cX3_sumOver 28 = .ok (.iload 6, 2) := by decide +kernel
theorem dX3_sumOver_30 : decode cX3_sumOver 30 = .ok (.iaload, 1) := by decide +kernel
theorem dX3_sumOver_31 : decode cX3_sumOver 31 = .ok (.i2l, 1) := by decide +kernel
theorem dX3_sumOver_32 : decode cX3_sumOver 32 = .ok (.ladd, 1) := by decide +kernel
theorem dX3_sumOver_33 : decode cX3_sumOver 33 = .ok (.lstore 4, 2) := by decide +kernel
theorem dX3_sumOver_35 : decode cX3_sumOver 35 = .ok (.iinc 6 1, 3) := by decide +kernel
theorem dX3_sumOver_38 : decode cX3_sumOver 38 = .ok (.goto (-22), 3) := by decide +kernel
theorem dX3_sumOver_41 : decode cX3_sumOver 41 = .ok (.lload 4, 2) := by decide +kernel
theorem dX3_sumOver_43 : decode cX3_sumOver 43 = .ok (.lreturn, 1) := by decide +kernel
theorem dX3_frameOfGreatest_0 : decode cX3_frameOfGreatest 0 = .ok (.iload_n 1, 1) := by decide +kernel
theorem dX3_frameOfGreatest_1 : decode cX3_frameOfGreatest 1 = .ok (.istore_n 3, 1) := by decide +kernel
theorem dX3_frameOfGreatest_2 : decode cX3_frameOfGreatest 2 = .ok (.iload_n 1, 1) := by decide +kernel
theorem dX3_frameOfGreatest_3 : decode cX3_frameOfGreatest 3 = .ok (.iconst 1, 1) := by decide +kernel
theorem dX3_frameOfGreatest_4 : decode cX3_frameOfGreatest 4 = .ok (.iadd, 1) := by decide +kernel
theorem dX3_frameOfGreatest_5 : decode cX3_frameOfGreatest 5 = .ok (.istore 4, 2) := by decide +kernel
theorem dX3_frameOfGreatest_7 : decode cX3_frameOfGreatest 7 = .ok (.iload 4, 2) := by decide +kernel
theorem dX3_frameOfGreatest_9 : decode cX3_frameOfGreatest 9 = .ok (.iload_n 2, 1) := by decide +kernel
theorem dX3_frameOfGreatest_10 : decode cX3_frameOfGreatest 10 = .ok (.if_icmp .gt 28, 3) := by decide +kernel
theorem dX3_frameOfGreatest_13 : decode cX3_frameOfGreatest 13 = .ok (.aload_n 0, 1) := by decide +kernel
theorem dX3_frameOfGreatest_14 : decode cX3_frameOfGreatest 14 = .ok (.getfield 38, 3) := by decide +kernel
theorem dX3_frameOfGreatest_17 : decode cX3_frameOfGreatest 17 = .ok (.iload 4, 2) := by decide +kernel
theorem dX3_frameOfGreatest_19 : decode cX3_frameOfGreatest 19 = .ok (.iaload, 1) := by decide +kernel
theorem dX3_frameOfGreatest_20 : decode cX3_frameOfGreatest 20 = .ok (.aload_n 0, 1) := by decide +kernel
theorem dX3_frameOfGreatest_21 : decode cX3_frameOfGreatest 21 = .ok (.getfield 38, 3) := by decide +kernel
theorem dX3_frameOfGreatest_24 : decode cX3_frameOfGreatest 24 = .ok (.iload_n 3, 1) := by decide +kernel
theorem dX3_frameOfGreatest_25 : decode cX3_frameOfGreatest 25 = .ok (.iaload, 1) := by decide +kernel
theorem dX3_frameOfGreatest_26 : decode cX3_frameOfGreatest 26 = .ok (.if_icmp .le 6, 3) := by decide +kernel
theorem dX3_frameOfGreatest_29 : decode cX3_frameOfGreatest 29 = .ok (.iload 4, 2) := by decide +kernel
theorem dX3_frameOfGreatest_31 : decode cX3_frameOfGreatest 31 = .ok (.istore_n 3, 1) := by decide +kernel
theorem dX3_frameOfGreatest_32 : decode cX3_frameOfGreatest 32 = .ok (.iinc 4 1, 3) := by decide +kernel
theorem dX3_frameOfGreatest_35 : decode cX3_frameOfGreatest 35 = .ok (.goto (-28), 3) := by decide +kernel
theorem dX3_frameOfGreatest_38 : decode cX3_frameOfGreatest 38 = .ok (.iload_n 3, 1) := by decide +kernel
theorem dX3_frameOfGreatest_39 : decode cX3_frameOfGreatest 39 = .ok (.ireturn, 1) := by decide +kernel
theorem dX3_frameOfSmallest_0 : decode cX3_frameOfSmallest 0 = .ok (.iload_n 1, 1) := by decide +kernel
theorem dX3_frameOfSmallest_1 : decode cX3_frameOfSmallest 1 = .ok (.istore_n 3, 1) := by decide +kernel
theorem dX3_frameOfSmallest_2 : decode cX3_frameOfSmallest 2 = .ok (.iload_n 1, 1) := by decide +kernel
theorem dX3_frameOfSmallest_3 : decode cX3_frameOfSmallest 3 = .ok (.iconst 1, 1) := by decide +kernel
theorem dX3_frameOfSmallest_4 : decode cX3_frameOfSmallest 4 = .ok (.iadd, 1) := by decide +kernel
theorem dX3_frameOfSmallest_5 : decode cX3_frameOfSmallest 5 = .ok (.istore 4, 2) := by decide +kernel
theorem dX3_frameOfSmallest_7 : decode cX3_frameOfSmallest 7 = .ok (.iload 4, 2) := by decide +kernel
theorem dX3_frameOfSmallest_9 : decode cX3_frameOfSmallest 9 = .ok (.iload_n 2, 1) := by decide +kernel
theorem dX3_frameOfSmallest_10 : decode cX3_frameOfSmallest 10 = .ok (.if_icmp .gt 28, 3) := by decide +kernel
theorem dX3_frameOfSmallest_13 : decode cX3_frameOfSmallest 13 = .ok (.aload_n 0, 1) := by decide +kernel
theorem dX3_frameOfSmallest_14 : decode cX3_frameOfSmallest 14 = .ok (.getfield 38, 3) := by decide +kernel
theorem dX3_frameOfSmallest_17 : decode cX3_frameOfSmallest 17 = .ok (.iload 4, 2) := by decide +kernel
theorem dX3_frameOfSmallest_19 : decode cX3_frameOfSmallest 19 = .ok (.iaload, 1) := by decide +kernel
theorem dX3_frameOfSmallest_20 : decode cX3_frameOfSmallest 20 = .ok (.aload_n 0, 1) := by decide +kernel
theorem dX3_frameOfSmallest_21 : decode cX3_frameOfSmallest 21 = .ok (.getfield 38, 3) := by decide +kernel
theorem dX3_frameOfSmallest_24 : decode cX3_frameOfSmallest 24 = .ok (.iload_n 3, 1) := by decide +kernel
theorem dX3_frameOfSmallest_25 : decode cX3_frameOfSmallest 25 = .ok (.iaload, 1) := by decide +kernel
theorem dX3_frameOfSmallest_26 : decode cX3_frameOfSmallest 26 = .ok (.if_icmp .ge 6, 3) := by decide +kernel
theorem dX3_frameOfSmallest_29 : decode cX3_frameOfSmallest 29 = .ok (.iload 4, 2) := by decide +kernel
theorem dX3_frameOfSmallest_31 : decode cX3_frameOfSmallest 31 = .ok (.istore_n 3, 1) := by decide +kernel
theorem dX3_frameOfSmallest_32 : decode cX3_frameOfSmallest 32 = .ok (.iinc 4 1, 3) := by decide +kernel
theorem dX3_frameOfSmallest_35 : decode cX3_frameOfSmallest 35 = .ok (.goto (-28), 3) := by decide +kernel
theorem dX3_frameOfSmallest_38 : decode cX3_frameOfSmallest 38 = .ok (.iload_n 3, 1) := by decide +kernel
theorem dX3_frameOfSmallest_39 : decode cX3_frameOfSmallest 39 = .ok (.ireturn, 1) := by decide +kernel
theorem dX3_greatestStep_0 : decode cX3_greatestStep 0 = .ok (.iconst 0, 1) := by decide +kernel
theorem dX3_greatestStep_1 : decode cX3_greatestStep 1 = .ok (.istore_n 3, 1) := by decide +kernel
theorem dX3_greatestStep_2 : decode cX3_greatestStep 2 = .ok (.iload_n 1, 1) := by decide +kernel
theorem dX3_greatestStep_3 : decode cX3_greatestStep 3 = .ok (.iconst 1, 1) := by decide +kernel
theorem dX3_greatestStep_4 : decode cX3_greatestStep 4 = .ok (.iadd, 1) := by decide +kernel
theorem dX3_greatestStep_5 : decode cX3_greatestStep 5 = .ok (.istore 4, 2) := by decide +kernel
theorem dX3_greatestStep_7 : decode cX3_greatestStep 7 = .ok (.iload 4, 2) := by decide +kernel
theorem dX3_greatestStep_9 : decode cX3_greatestStep 9 = .ok (.iload_n 2, 1) := by decide +kernel
theorem dX3_greatestStep_10 : decode cX3_greatestStep 10 = .ok (.if_icmp .gt 34, 3) := by decide +kernel
theorem dX3_greatestStep_13 : decode cX3_greatestStep 13 = .ok (.iload_n 3, 1) := by decide +kernel
theorem dX3_greatestStep_14 : decode cX3_greatestStep 14 = .ok (.aload_n 0, 1) := by decide +kernel
theorem dX3_greatestStep_15 : decode cX3_greatestStep 15 = .ok (.getfield 38, 3) := by decide +kernel
theorem dX3_greatestStep_18 : decode cX3_greatestStep 18 = .ok (.iload 4, 2) := by decide +kernel
theorem dX3_greatestStep_20 : decode cX3_greatestStep 20 = .ok (.iaload, 1) := by decide +kernel
theorem dX3_greatestStep_21 : decode cX3_greatestStep 21 = .ok (.aload_n 0, 1) := by decide +kernel
theorem dX3_greatestStep_22 : decode cX3_greatestStep 22 = .ok (.getfield 38, 3) := by decide +kernel
theorem dX3_greatestStep_25 : decode cX3_greatestStep 25 = .ok (.iload 4, 2) := by decide +kernel
theorem dX3_greatestStep_27 : decode cX3_greatestStep 27 = .ok (.iconst 1, 1) := by decide +kernel
theorem dX3_greatestStep_28 : decode cX3_greatestStep 28 = .ok (.isub, 1) := by decide +kernel
theorem dX3_greatestStep_29 : decode cX3_greatestStep 29 = .ok (.iaload, 1) := by decide +kernel
theorem dX3_greatestStep_30 : decode cX3_greatestStep 30 = .ok (.isub, 1) := by decide +kernel
theorem dX3_greatestStep_31 : decode cX3_greatestStep 31 = .ok (.invokestatic 233, 3) := by decide +kernel
theorem dX3_greatestStep_34 : decode cX3_greatestStep 34 = .ok (.invokestatic 238, 3) := by decide +kernel
theorem dX3_greatestStep_37 : decode cX3_greatestStep 37 = .ok (.istore_n 3, 1) := by decide +kernel
theorem dX3_greatestStep_38 : decode cX3_greatestStep 38 = .ok (.iinc 4 1, 3) := by decide +kernel
theorem dX3_greatestStep_41 : decode cX3_greatestStep 41 = .ok (.goto (-34), 3) := by decide +kernel
theorem dX3_greatestStep_44 : decode cX3_greatestStep 44 = .ok (.iload_n 3, 1) := by decide +kernel
theorem dX3_greatestStep_45 : decode cX3_greatestStep 45 = .ok (.ireturn, 1) := by decide +kernel
theorem dX3_greatestDifference_0 : decode cX3_greatestDifference 0 = .ok (.iconst 0, 1) := by decide +kernel
theorem dX3_greatestDifference_1 : decode cX3_greatestDifference 1 = .ok (.istore_n 3, 1) := by decide +kernel
theorem dX3_greatestDifference_2 : decode cX3_greatestDifference 2 = .ok (.iload_n 1, 1) := by decide +kernel
theorem dX3_greatestDifference_3 : decode cX3_greatestDifference 3 = .ok (.istore 4, 2) := by decide +kernel
theorem dX3_greatestDifference_5 : decode cX3_greatestDifference 5 = .ok (.iload 4, 2) := by decide +kernel
theorem dX3_greatestDifference_7 : decode cX3_greatestDifference 7 = .ok (.iload_n 2, 1) := by decide +kernel
theorem dX3_greatestDifference_8 : decode cX3_greatestDifference 8 = .ok (.if_icmp .gt 32, 3) := by decide +kernel
theorem dX3_greatestDifference_11 : decode cX3_greatestDifference 11 = .ok (.iload_n 3, 1) := by decide +kernel
theorem dX3_greatestDifference_12 : decode cX3_greatestDifference 12 = .ok (.aload_n 0, 1) := by decide +kernel
theorem dX3_greatestDifference_13 : decode cX3_greatestDifference 13 = .ok (.getfield 38, 3) := by decide +kernel
theorem dX3_greatestDifference_16 : decode cX3_greatestDifference 16 = .ok (.iload 4, 2) := by decide +kernel
theorem dX3_greatestDifference_18 : decode cX3_greatestDifference 18 = .ok (.iaload, 1) := by decide +kernel
theorem dX3_greatestDifference_19 : decode cX3_greatestDifference 19 = .ok (.aload_n 0, 1) := by decide +kernel
theorem dX3_greatestDifference_20 : decode cX3_greatestDifference 20 = .ok (.getfield 42, 3) := by decide +kernel
theorem dX3_greatestDifference_23 : decode cX3_greatestDifference 23 = .ok (.iload 4, 2) := by decide +kernel
theorem dX3_greatestDifference_25 : decode cX3_greatestDifference 25 = .ok (.iaload, 1) := by decide +kernel
theorem dX3_greatestDifference_26 : decode cX3_greatestDifference 26 = .ok (.isub, 1) := by decide +kernel
theorem dX3_greatestDifference_27 : decode cX3_greatestDifference 27 = .ok (.invokestatic 233, 3) := by decide +kernel
theorem dX3_greatestDifference_30 : decode cX3_greatestDifference 30 = .ok (.invokestatic 238, 3) := by decide +kernel
theorem dX3_greatestDifference_33 : decode cX3_greatestDifference 33 = .ok (.istore_n 3, 1) := by decide +kernel
theorem dX3_greatestDifference_34 : decode cX3_greatestDifference 34 = .ok (.iinc 4 1, 3) := by decide +kernel
theorem dX3_greatestDifference_37 : decode cX3_greatestDifference 37 = .ok (.goto (-32), 3) := by decide +kernel
theorem dX3_greatestDifference_40 : decode cX3_greatestDifference 40 = .ok (.iload_n 3, 1) := by decide +kernel
theorem dX3_greatestDifference_41 : decode cX3_greatestDifference 41 = .ok (.ireturn, 1) := by decide +kernel
set_option maxRecDepth 20000 in
theorem ggX3_keyToLeaveOut_X0_bake : GoodIn wsX3_keyToLeaveOut wsX0_bake := goodIn_r _ [5, 6, 7, 8, 9, 3, 10, 11, 12, 13, 14, 15, 16, 17, 18, 19, 20, 21, 22, 23, 24, 25, 26, 27, 28, 29, 30, 31, 32, 33, 34, 35, 36, 37, 38, 39, 82, 83] (by decide +kernel) (by decide +kernel)
set_option maxRecDepth 20000 in
theorem gX3_keyToLeaveOut_X0_bake_n152 : GoodIn wsX3_keyToLeaveOut (wsX0_bake) := ggX3_keyToLeaveOut_X0_bake
set_option maxRecDepth 20000 in
theorem ggX3_keyToLeaveOut_X0_mayLeaveOut : GoodIn wsX3_keyToLeaveOut wsX0_mayLeaveOut := goodIn_r _ [42, 6, 43, 44, 45, 3, 46, 11, 12, 13, 14, 15, 82, 83] (by decide +kernel) (by decide +kernel)
set_option maxRecDepth 20000 in
theorem gX3_keyToLeaveOut_X0_mayLeaveOut_n170 : GoodIn wsX3_keyToLeaveOut (wsX0_mayLeaveOut) := ggX3_keyToLeaveOut_X0_mayLeaveOut
set_option maxRecDepth 20000 in
theorem ggX3_keyToLeaveOut_X3_differenceWithout : GoodIn wsX3_keyToLeaveOut wsX3_differenceWithout := goodIn_r _ [51, 52, 21, 22, 23, 53, 54, 55, 56, 57, 12, 3, 13, 14, 6, 15, 58, 59, 60, 61, 62, 63, 64, 65, 66, 67, 2, 4, 5, 7, 8, 9, 10, 11, 16, 17, 18, 19, 20, 24, 25, 26, 27, 28, 29, 30, 31, 32, 33, 34, 35, 36, 37, 38, 39, 68, 69, 70, 50, 71, 1, 72, 73, 74, 82, 83, 75, 76, 77, 78, 79, 80, 81] (by decide +kernel) (by decide +kernel)
set_option maxRecDepth 20000 in
theorem gX3_keyToLeaveOut_X3_differenceWithout : GoodIn wsX3_keyToLeaveOut (wsV RX3 173 RX3 yX3_differenceWithout wsX3_differenceWithout) := goodIn_app (goodIn_of _ (by decide +kernel)) ggX3_keyToLeaveOut_X3_differenceWithout
theorem dX3_keyToLeaveOut_0 : decode cX3_keyToLeaveOut 0 = .ok (.aload_n 1, 1) := by decide +kernel
theorem dX3_keyToLeaveOut_1 : decode cX3_keyToLeaveOut 1 = .ok (.aload_n 0, 1) := by decide +kernel
theorem dX3_keyToLeaveOut_2 : decode cX3_keyToLeaveOut 2 = .ok (.getfield 38, 3) := by decide +kernel
theorem dX3_keyToLeaveOut_5 : decode cX3_keyToLeaveOut 5 = .ok (.iconst 0, 1) := by decide +kernel
theorem dX3_keyToLeaveOut_6 : decode cX3_keyToLeaveOut 6 = .ok (.sipush 999, 3) := by decide +kernel
theorem dX3_keyToLeaveOut_9 : decode cX3_keyToLeaveOut 9 = .ok (.invokevirtual 152, 3) := by decide +kernel
theorem dX3_keyToLeaveOut_12 : decode cX3_keyToLeaveOut 12 = .ok (.iconst (-1), 1) := by decide +kernel
theorem dX3_keyToLeaveOut_13 : decode cX3_keyToLeaveOut 13 = .ok (.istore_n 3, 1) := by decide +kernel
theorem dX3_keyToLeaveOut_14 : decode cX3_keyToLeaveOut 14 = .ok (.iload_n 2, 1) := by decide +kernel
theorem dX3_keyToLeaveOut_15 : decode cX3_keyToLeaveOut 15 = .ok (.iconst 1, 1) := by decide +kernel
theorem dX3_keyToLeaveOut_16 : decode cX3_keyToLeaveOut 16 = .ok (.iadd, 1) := by decide +kernel
theorem dX3_keyToLeaveOut_17 : decode cX3_keyToLeaveOut 17 = .ok (.istore 4, 2) := by decide +kernel
theorem dX3_keyToLeaveOut_19 : decode cX3_keyToLeaveOut 19 = .ok (.iconst 0, 1) := by decide +kernel
theorem dX3_keyToLeaveOut_20 : decode cX3_keyToLeaveOut 20 = .ok (.istore 5, 2) := by decide +kernel
theorem dX3_keyToLeaveOut_22 : decode cX3_keyToLeaveOut 22 = .ok (.iload 5, 2) := by decide +kernel
theorem dX3_keyToLeaveOut_24 : decode cX3_keyToLeaveOut 24 = .ok (.aload_n 1, 1) := by decide +kernel
theorem dX3_keyToLeaveOut_25 : decode cX3_keyToLeaveOut 25 = .ok (.getfield 53, 3) := by decide +kernel
theorem dX3_keyToLeaveOut_28 : decode cX3_keyToLeaveOut 28 = .ok (.if_icmp .ge 41, 3) := by decide +kernel
theorem dX3_keyToLeaveOut_31 : decode cX3_keyToLeaveOut 31 = .ok (.aload_n 1, 1) := by decide +kernel
theorem dX3_keyToLeaveOut_32 : decode cX3_keyToLeaveOut 32 = .ok (.iload 5, 2) := by decide +kernel
theorem dX3_keyToLeaveOut_34 : decode cX3_keyToLeaveOut 34 = .ok (.invokevirtual 170, 3) := by decide +kernel
theorem dX3_keyToLeaveOut_37 : decode cX3_keyToLeaveOut 37 = .ok (.ifCond .eq 26, 3) := by decide +kernel
theorem dX3_keyToLeaveOut_40 : decode cX3_keyToLeaveOut 40 = .ok (.aload_n 0, 1) := by decide +kernel
theorem dX3_keyToLeaveOut_41 : decode cX3_keyToLeaveOut 41 = .ok (.aload_n 1, 1) := by decide +kernel
theorem dX3_keyToLeaveOut_42 : decode cX3_keyToLeaveOut 42 = .ok (.iload 5, 2) := by decide +kernel
theorem dX3_keyToLeaveOut_44 : decode cX3_keyToLeaveOut 44 = .ok (.invokevirtual 173, 3) := by decide +kernel
theorem dX3_keyToLeaveOut_47 : decode cX3_keyToLeaveOut 47 = .ok (.istore 6, 2) := by decide +kernel
theorem dX3_keyToLeaveOut_49 : decode cX3_keyToLeaveOut 49 = .ok (.iload 6, 2) := by decide +kernel
theorem dX3_keyToLeaveOut_51 : decode cX3_keyToLeaveOut 51 = .ok (.iload 4, 2) := by decide +kernel
theorem dX3_keyToLeaveOut_53 : decode cX3_keyToLeaveOut 53 = .ok (.if_icmp .ge 10, 3) := by decide +kernel
theorem dX3_keyToLeaveOut_56 : decode cX3_keyToLeaveOut 56 = .ok (.iload 5, 2) := by decide +kernel
theorem dX3_keyToLeaveOut_58 : decode cX3_keyToLeaveOut 58 = .ok (.istore_n 3, 1) := by decide +kernel
theorem dX3_keyToLeaveOut_59 : decode cX3_keyToLeaveOut 59 = .ok (.iload 6, 2) := by decide +kernel
theorem dX3_keyToLeaveOut_61 : decode cX3_keyToLeaveOut 61 = .ok (.istore 4, 2) := by decide +kernel
theorem dX3_keyToLeaveOut_63 : decode cX3_keyToLeaveOut 63 = .ok (.iinc 5 1, 3) := by decide +kernel
theorem dX3_keyToLeaveOut_66 : decode cX3_keyToLeaveOut 66 = .ok (.goto (-44), 3) := by decide +kernel
theorem dX3_keyToLeaveOut_69 : decode cX3_keyToLeaveOut 69 = .ok (.iload_n 3, 1) := by decide +kernel
theorem dX3_keyToLeaveOut_70 : decode cX3_keyToLeaveOut 70 = .ok (.ireturn, 1) := by decide +kernel
set_option maxRecDepth 20000 in
theorem ggX3_differenceWithout_X0_cell : GoodIn wsX3_differenceWithout wsX0_cell := goodIn_r _ [13, 14, 15, 64, 65] (by decide +kernel) (by decide +kernel)
set_option maxRecDepth 20000 in
theorem gX3_differenceWithout_X0_cell_n87 : GoodIn wsX3_differenceWithout (wsX0_cell) := ggX3_differenceWithout_X0_cell
set_option maxRecDepth 20000 in
theorem ggX3_differenceWithout_X0_become : GoodIn wsX3_differenceWithout wsX0_become := goodIn_r _ [18, 14, 15, 19, 20, 21, 22, 64, 65] (by decide +kernel) (by decide +kernel)
set_option maxRecDepth 20000 in
theorem gX3_differenceWithout_X0_become_n128 : GoodIn wsX3_differenceWithout (wsX0_become) := ggX3_differenceWithout_X0_become
set_option maxRecDepth 20000 in
theorem ggX3_differenceWithout_X0_takeOut : GoodIn wsX3_differenceWithout wsX0_takeOut := goodIn_r _ [25, 14, 15, 19, 20, 21, 22, 64, 65] (by decide +kernel) (by decide +kernel)
set_option maxRecDepth 20000 in
theorem gX3_differenceWithout_X0_takeOut_n83 : GoodIn wsX3_differenceWithout (wsX0_takeOut) := ggX3_differenceWithout_X0_takeOut
set_option maxRecDepth 20000 in
theorem ggX3_differenceWithout_X0_bake : GoodIn wsX3_differenceWithout wsX0_bake := goodIn_r _ [28, 14, 29, 30, 31, 11, 32, 33, 10, 12, 13, 15, 34, 35, 36, 37, 38, 2, 3, 4, 39, 40, 41, 42, 43, 44, 45, 46, 47, 48, 49, 50, 51, 52, 53, 54, 64, 65] (by decide +kernel) (by decide +kernel)
set_option maxRecDepth 20000 in
theorem gX3_differenceWithout_X0_bake_n152 : GoodIn wsX3_differenceWithout (wsX0_bake) := ggX3_differenceWithout_X0_bake
set_option maxRecDepth 20000 in
theorem ggX3_differenceWithout_X3_greatestDifference : GoodIn wsX3_differenceWithout wsX3_greatestDifference := goodIn_r _ [59, 60, 9, 61, 62, 3, 63, 1, 2, 4, 66, 67, 68, 69, 70, 71, 72] (by decide +kernel) (by decide +kernel)
set_option maxRecDepth 20000 in
theorem gX3_differenceWithout_X3_greatestDifference : GoodIn wsX3_differenceWithout (wsV RX3 165 RX3 yX3_greatestDifference wsX3_greatestDifference) := goodIn_app (goodIn_of _ (by decide +kernel)) ggX3_differenceWithout_X3_greatestDifference
theorem dX3_differenceWithout_0 : decode cX3_differenceWithout 0 = .ok (.aload_n 1, 1) := by decide +kernel
theorem dX3_differenceWithout_1 : decode cX3_differenceWithout 1 = .ok (.iload_n 2, 1) := by decide +kernel
theorem dX3_differenceWithout_2 : decode cX3_differenceWithout 2 = .ok (.iconst 2, 1) := by decide +kernel
theorem dX3_differenceWithout_3 : decode cX3_differenceWithout 3 = .ok (.isub, 1) := by decide +kernel
theorem dX3_differenceWithout_4 : decode cX3_differenceWithout 4 = .ok (.iconst 0, 1) := by decide +kernel
theorem dX3_differenceWithout_5 : decode cX3_differenceWithout 5 = .ok (.invokestatic 238, 3) := by decide +kernel
theorem dX3_differenceWithout_8 : decode cX3_differenceWithout 8 = .ok (.iconst 0, 1) := by decide +kernel
theorem dX3_differenceWithout_9 : decode cX3_differenceWithout 9 = .ok (.invokevirtual 87, 3) := by decide +kernel
theorem dX3_differenceWithout_12 : decode cX3_differenceWithout 12 = .ok (.istore_n 3, 1) := by decide +kernel
theorem dX3_differenceWithout_13 : decode cX3_differenceWithout 13 = .ok (.aload_n 1, 1) := by decide +kernel
theorem dX3_differenceWithout_14 : decode cX3_differenceWithout 14 = .ok (.iload_n 2, 1) := by decide +kernel
theorem dX3_differenceWithout_15 : decode cX3_differenceWithout 15 = .ok (.iconst 2, 1) := by decide +kernel
theorem dX3_differenceWithout_16 : decode cX3_differenceWithout 16 = .ok (.iadd, 1) := by decide +kernel
theorem dX3_differenceWithout_17 : decode cX3_differenceWithout 17 = .ok (.aload_n 1, 1) := by decide +kernel
theorem dX3_differenceWithout_18 : decode cX3_differenceWithout 18 = .ok (.getfield 53, 3) := by decide +kernel
theorem dX3_differenceWithout_21 : decode cX3_differenceWithout 21 = .ok (.iconst 1, 1) := by decide +kernel
theorem dX3_differenceWithout_22 : decode cX3_differenceWithout 22 = .ok (.isub, 1) := by decide +kernel
theorem dX3_differenceWithout_23 : decode cX3_differenceWithout 23 = .ok (.invokestatic 241, 3) := by decide +kernel
theorem dX3_differenceWithout_26 : decode cX3_differenceWithout 26 = .ok (.iconst 0, 1) := by decide +kernel
theorem dX3_differenceWithout_27 : decode cX3_differenceWithout 27 = .ok (.invokevirtual 87, 3) := by decide +kernel
theorem dX3_differenceWithout_30 : decode cX3_differenceWithout 30 = .ok (.istore 4, 2) := by decide +kernel
theorem dX3_differenceWithout_32 : decode cX3_differenceWithout 32 = .ok (.aload_n 0, 1) := by decide +kernel
theorem dX3_differenceWithout_33 : decode cX3_differenceWithout 33 = .ok (.getfield 34, 3) := by decide +kernel
theorem dX3_differenceWithout_36 : decode cX3_differenceWithout 36 = .ok (.aload_n 1, 1) := by decide +kernel
theorem dX3_differenceWithout_37 : decode cX3_differenceWithout 37 = .ok (.invokevirtual 128, 3) := by decide +kernel
theorem dX3_differenceWithout_40 : decode cX3_differenceWithout 40 = .ok (.aload_n 0, 1) := by decide +kernel
theorem dX3_differenceWithout_41 : decode cX3_differenceWithout 41 = .ok (.getfield 34, 3) := by decide +kernel
theorem dX3_differenceWithout_44 : decode cX3_differenceWithout 44 = .ok (.iload_n 2, 1) := by decide +kernel
theorem dX3_differenceWithout_45 : decode cX3_differenceWithout 45 = .ok (.invokevirtual 83, 3) := by decide +kernel
theorem dX3_differenceWithout_48 : decode cX3_differenceWithout 48 = .ok (.aload_n 0, 1) := by decide +kernel
theorem dX3_differenceWithout_49 : decode cX3_differenceWithout 49 = .ok (.getfield 34, 3) := by decide +kernel
theorem dX3_differenceWithout_52 : decode cX3_differenceWithout 52 = .ok (.aload_n 0, 1) := by decide +kernel
theorem dX3_differenceWithout_53 : decode cX3_differenceWithout 53 = .ok (.getfield 42, 3) := by decide +kernel
theorem dX3_differenceWithout_56 : decode cX3_differenceWithout 56 = .ok (.iload_n 3, 1) := by decide +kernel
theorem dX3_differenceWithout_57 : decode cX3_differenceWithout 57 = .ok (.iload 4, 2) := by decide +kernel
theorem dX3_differenceWithout_59 : decode cX3_differenceWithout 59 = .ok (.invokevirtual 152, 3) := by decide +kernel
theorem dX3_differenceWithout_62 : decode cX3_differenceWithout 62 = .ok (.aload_n 0, 1) := by decide +kernel
theorem dX3_differenceWithout_63 : decode cX3_differenceWithout 63 = .ok (.iload_n 3, 1) := by decide +kernel
theorem dX3_differenceWithout_64 : decode cX3_differenceWithout 64 = .ok (.iload 4, 2) := by decide +kernel
theorem dX3_differenceWithout_66 : decode cX3_differenceWithout 66 = .ok (.invokevirtual 165, 3) := by decide +kernel
theorem dX3_differenceWithout_69 : decode cX3_differenceWithout 69 = .ok (.ireturn, 1) := by decide +kernel
