theorem dX0_init_0 : decode cX0_init 0 = .ok (.aload_n 0, 1) := by decide +kernel
theorem dX0_init_1 : decode cX0_init 1 = .ok (.invokespecial 3, 3) := by decide +kernel
theorem dX0_init_4 : decode cX0_init 4 = .ok (.aload_n 0, 1) := by decide +kernel
theorem dX0_init_5 : decode cX0_init 5 = .ok (.iconst 0, 1) := by decide +kernel
theorem dX0_init_6 : decode cX0_init 6 = .ok (.putfield 9, 3) := by decide +kernel
theorem dX0_init_9 : decode cX0_init 9 = .ok (.aload_n 0, 1) := by decide +kernel
theorem dX0_init_10 : decode cX0_init 10 = .ok (.bipush 96, 2) := by decide +kernel
theorem dX0_init_12 : decode cX0_init 12 = .ok (.newarray .int, 2) := by decide +kernel
theorem dX0_init_14 : decode cX0_init 14 = .ok (.putfield 15, 3) := by decide +kernel
theorem dX0_init_17 : decode cX0_init 17 = .ok (.return_, 1) := by decide +kernel
theorem dX0_cell_0 : decode cX0_cell 0 = .ok (.iload_n 1, 1) := by decide +kernel
theorem dX0_cell_1 : decode cX0_cell 1 = .ok (.ifCond .lt 25, 3) := by decide +kernel
theorem dX0_cell_4 : decode cX0_cell 4 = .ok (.iload_n 1, 1) := by decide +kernel
theorem dX0_cell_5 : decode cX0_cell 5 = .ok (.aload_n 0, 1) := by decide +kernel
theorem dX0_cell_6 : decode cX0_cell 6 = .ok (.getfield 9, 3) := by decide +kernel
theorem dX0_cell_9 : decode cX0_cell 9 = .ok (.if_icmp .ge 17, 3) := by decide +kernel
theorem dX0_cell_12 : decode cX0_cell 12 = .ok (.aload_n 0, 1) := by decide +kernel
theorem dX0_cell_13 : decode cX0_cell 13 = .ok (.getfield 15, 3) := by decide +kernel
theorem dX0_cell_16 : decode cX0_cell 16 = .ok (.iload_n 1, 1) := by decide +kernel
theorem dX0_cell_17 : decode cX0_cell 17 = .ok (.bipush 6, 2) := by decide +kernel
theorem dX0_cell_19 : decode cX0_cell 19 = .ok (.imul, 1) := by decide +kernel
theorem dX0_cell_20 : decode cX0_cell 20 = .ok (.iload_n 2, 1) := by decide +kernel
theorem dX0_cell_21 : decode cX0_cell 21 = .ok (.iadd, 1) := by decide +kernel
theorem dX0_cell_22 : decode cX0_cell 22 = .ok (.iaload, 1) := by decide +kernel
theorem dX0_cell_23 : decode cX0_cell 23 = .ok (.goto 4, 3) := by decide +kernel
theorem dX0_cell_26 : decode cX0_cell 26 = .ok (.iconst 0, 1) := by decide +kernel
theorem dX0_cell_27 : decode cX0_cell 27 = .ok (.ireturn, 1) := by decide +kernel
theorem dX0_put_0 : decode cX0_put 0 = .ok (.iload_n 1, 1) := by decide +kernel
theorem dX0_put_1 : decode cX0_put 1 = .ok (.ifCond .lt 23, 3) := by decide +kernel
theorem dX0_put_4 : decode cX0_put 4 = .ok (.iload_n 1, 1) := by decide +kernel
theorem dX0_put_5 : decode cX0_put 5 = .ok (.aload_n 0, 1) := by decide +kernel
theorem dX0_put_6 : decode cX0_put 6 = .ok (.getfield 9, 3) := by decide +kernel
theorem dX0_put_9 : decode cX0_put 9 = .ok (.if_icmp .ge 15, 3) := by decide +kernel
theorem dX0_put_12 : decode cX0_put 12 = .ok (.aload_n 0, 1) := by decide +kernel
theorem dX0_put_13 : decode cX0_put 13 = .ok (.getfield 15, 3) := by decide +kernel
theorem dX0_put_16 : decode cX0_put 16 = .ok (.iload_n 1, 1) := by decide +kernel
theorem dX0_put_17 : decode cX0_put 17 = .ok (.bipush 6, 2) := by decide +kernel
theorem dX0_put_19 : decode cX0_put 19 = .ok (.imul, 1) := by decide +kernel
theorem dX0_put_20 : decode cX0_put 20 = .ok (.iload_n 2, 1) := by decide +kernel
theorem dX0_put_21 : decode cX0_put 21 = .ok (.iadd, 1) := by decide +kernel
theorem dX0_put_22 : decode cX0_put 22 = .ok (.iload_n 3, 1) := by decide +kernel
theorem dX0_put_23 : decode cX0_put 23 = .ok (.iastore, 1) := by decide +kernel
theorem dX0_put_24 : decode cX0_put 24 = .ok (.return_, 1) := by decide +kernel
set_option maxRecDepth 20000 in
theorem ggX0_isLocked_X0_cell : GoodIn wsX0_isLocked wsX0_cell := goodIn_r _ [5, 6, 7, 8, 9] (by decide +kernel) (by decide +kernel)
set_option maxRecDepth 20000 in
theorem gX0_isLocked_X0_cell : GoodIn wsX0_isLocked (wsV RX0 19 RX0 yX0_cell wsX0_cell) := goodIn_app (goodIn_of _ (by decide +kernel)) ggX0_isLocked_X0_cell
theorem dX0_isLocked_0 : decode cX0_isLocked 0 = .ok (.aload_n 0, 1) := by decide +kernel
theorem dX0_isLocked_1 : decode cX0_isLocked 1 = .ok (.iload_n 1, 1) := by decide +kernel
theorem dX0_isLocked_2 : decode cX0_isLocked 2 = .ok (.iconst 5, 1) := by decide +kernel
theorem dX0_isLocked_3 : decode cX0_isLocked 3 = .ok (.invokevirtual 19, 3) := by decide +kernel
theorem dX0_isLocked_6 : decode cX0_isLocked 6 = .ok (.iconst 1, 1) := by decide +kernel
theorem dX0_isLocked_7 : decode cX0_isLocked 7 = .ok (.if_icmp .ne 7, 3) := by decide +kernel
theorem dX0_isLocked_10 : decode cX0_isLocked 10 = .ok (.iconst 1, 1) := by decide +kernel
theorem dX0_isLocked_11 : decode cX0_isLocked 11 = .ok (.goto 4, 3) := by decide +kernel
theorem dX0_isLocked_14 : decode cX0_isLocked 14 = .ok (.iconst 0, 1) := by decide +kernel
theorem dX0_isLocked_15 : decode cX0_isLocked 15 = .ok (.ireturn, 1) := by decide +kernel
set_option maxRecDepth 20000 in
theorem ggX0_hasLock_X0_isLocked : GoodIn wsX0_hasLock wsX0_isLocked := goodIn_r _ [6, 7, 8, 9, 5, 10, 1, 11, 12, 13] (by decide +kernel) (by decide +kernel)
set_option maxRecDepth 20000 in
theorem gX0_hasLock_X0_isLocked : GoodIn wsX0_hasLock (wsV RX0 23 RX0 yX0_isLocked wsX0_isLocked) := goodIn_app (goodIn_of _ (by decide +kernel)) ggX0_hasLock_X0_isLocked
theorem dX0_hasLock_0 : decode cX0_hasLock 0 = .ok (.iconst 0, 1) := by decide +kernel
theorem dX0_hasLock_1 : decode cX0_hasLock 1 = .ok (.istore_n 1, 1) := by decide +kernel
theorem dX0_hasLock_2 : decode cX0_hasLock 2 = .ok (.iload_n 1, 1) := by decide +kernel
theorem dX0_hasLock_3 : decode cX0_hasLock 3 = .ok (.aload_n 0, 1) := by decide +kernel
theorem dX0_hasLock_4 : decode cX0_hasLock 4 = .ok (.getfield 9, 3) := by decide +kernel
theorem dX0_hasLock_7 : decode cX0_hasLock 7 = .ok (.if_icmp .ge 19, 3) := by decide +kernel
theorem dX0_hasLock_10 : decode cX0_hasLock 10 = .ok (.aload_n 0, 1) := by decide +kernel
theorem dX0_hasLock_11 : decode cX0_hasLock 11 = .ok (.iload_n 1, 1) := by decide +kernel
theorem dX0_hasLock_12 : decode cX0_hasLock 12 = .ok (.invokevirtual 23, 3) := by decide +kernel
theorem dX0_hasLock_15 : decode cX0_hasLock 15 = .ok (.ifCond .eq 5, 3) := by decide +kernel
theorem dX0_hasLock_18 : decode cX0_hasLock 18 = .ok (.iconst 1, 1) := by decide +kernel
theorem dX0_hasLock_19 : decode cX0_hasLock 19 = .ok (.ireturn, 1) := by decide +kernel
theorem dX0_hasLock_20 : decode cX0_hasLock 20 = .ok (.iinc 1 1, 3) := by decide +kernel
theorem dX0_hasLock_23 : decode cX0_hasLock 23 = .ok (.goto (-21), 3) := by decide +kernel
theorem dX0_hasLock_26 : decode cX0_hasLock 26 = .ok (.iconst 0, 1) := by decide +kernel
theorem dX0_hasLock_27 : decode cX0_hasLock 27 = .ok (.ireturn, 1) := by decide +kernel
set_option maxRecDepth 20000 in
theorem ggX0_countUpTo_X0_cell : GoodIn wsX0_countUpTo wsX0_cell := goodIn_r _ [6, 1, 7, 8, 9] (by decide +kernel) (by decide +kernel)
set_option maxRecDepth 20000 in
theorem gX0_countUpTo_X0_cell : GoodIn wsX0_countUpTo (wsV RX0 19 RX0 yX0_cell wsX0_cell) := goodIn_app (goodIn_of _ (by decide +kernel)) ggX0_countUpTo_X0_cell
theorem dX0_countUpTo_0 : decode cX0_countUpTo 0 = .ok (.iconst 0, 1) := by decide +kernel
theorem dX0_countUpTo_1 : decode cX0_countUpTo 1 = .ok (.istore_n 2, 1) := by decide +kernel
theorem dX0_countUpTo_2 : decode cX0_countUpTo 2 = .ok (.iload_n 2, 1) := by decide +kernel
theorem dX0_countUpTo_3 : decode cX0_countUpTo 3 = .ok (.aload_n 0, 1) := by decide +kernel
theorem dX0_countUpTo_4 : decode cX0_countUpTo 4 = .ok (.getfield 9, 3) := by decide +kernel
theorem dX0_countUpTo_7 : decode cX0_countUpTo 7 = .ok (.if_icmp .ge 19, 3) := by decide +kernel
theorem dX0_countUpTo_10 : decode cX0_countUpTo 10 = .ok (.aload_n 0, 1) := by decide +kernel
theorem dX0_countUpTo_11 : decode cX0_countUpTo 11 = .ok (.iload_n 2, 1) := by decide +kernel
theorem dX0_countUpTo_12 : decode cX0_countUpTo 12 = .ok (.iconst 0, 1) := by decide +kernel
theorem dX0_countUpTo_13 : decode cX0_countUpTo 13 = .ok (.invokevirtual 19, 3) := by decide +kernel
theorem dX0_countUpTo_16 : decode cX0_countUpTo 16 = .ok (.iload_n 1, 1) := by decide +kernel
theorem dX0_countUpTo_17 : decode cX0_countUpTo 17 = .ok (.if_icmp .gt 9, 3) := by decide +kernel
theorem dX0_countUpTo_20 : decode cX0_countUpTo 20 = .ok (.iinc 2 1, 3) := by decide +kernel
theorem dX0_countUpTo_23 : decode cX0_countUpTo 23 = .ok (.goto (-21), 3) := by decide +kernel
theorem dX0_countUpTo_26 : decode cX0_countUpTo 26 = .ok (.iload_n 2, 1) := by decide +kernel
theorem dX0_countUpTo_27 : decode cX0_countUpTo 27 = .ok (.ireturn, 1) := by decide +kernel
set_option maxRecDepth 20000 in
theorem ggX0_numberAtFrame_X0_countUpTo : GoodIn wsX0_numberAtFrame wsX0_countUpTo := goodIn_r _ [5, 6, 7, 8, 9, 4, 10, 11, 12, 13] (by decide +kernel) (by decide +kernel)
set_option maxRecDepth 20000 in
theorem gX0_numberAtFrame_X0_countUpTo : GoodIn wsX0_numberAtFrame (wsV RX0 27 RX0 yX0_countUpTo wsX0_countUpTo) := goodIn_app (goodIn_of _ (by decide +kernel)) ggX0_numberAtFrame_X0_countUpTo
set_option maxRecDepth 20000 in
theorem ggX0_numberAtFrame_X0_cell : GoodIn wsX0_numberAtFrame wsX0_cell := goodIn_r _ [10, 6, 11, 12, 13] (by decide +kernel) (by decide +kernel)
set_option maxRecDepth 20000 in
theorem gX0_numberAtFrame_X0_cell : GoodIn wsX0_numberAtFrame (wsV RX0 19 RX0 yX0_cell wsX0_cell) := goodIn_app (goodIn_of _ (by decide +kernel)) ggX0_numberAtFrame_X0_cell
theorem dX0_numberAtFrame_0 : decode cX0_numberAtFrame 0 = .ok (.aload_n 0, 1) := by decide +kernel
theorem dX0_numberAtFrame_1 : decode cX0_numberAtFrame 1 = .ok (.iload_n 1, 1) := by decide +kernel
theorem dX0_numberAtFrame_2 : decode cX0_numberAtFrame 2 = .ok (.invokevirtual 27, 3) := by decide +kernel
theorem dX0_numberAtFrame_5 : decode cX0_numberAtFrame 5 = .ok (.iconst 1, 1) := by decide +kernel
theorem dX0_numberAtFrame_6 : decode cX0_numberAtFrame 6 = .ok (.isub, 1) := by decide +kernel
theorem dX0_numberAtFrame_7 : decode cX0_numberAtFrame 7 = .ok (.istore_n 2, 1) := by decide +kernel
theorem dX0_numberAtFrame_8 : decode cX0_numberAtFrame 8 = .ok (.iload_n 2, 1) := by decide +kernel
theorem dX0_numberAtFrame_9 : decode cX0_numberAtFrame 9 = .ok (.ifCond .lt 17, 3) := by decide +kernel
theorem dX0_numberAtFrame_12 : decode cX0_numberAtFrame 12 = .ok (.aload_n 0, 1) := by decide +kernel
theorem dX0_numberAtFrame_13 : decode cX0_numberAtFrame 13 = .ok (.iload_n 2, 1) := by decide +kernel
theorem dX0_numberAtFrame_14 : decode cX0_numberAtFrame 14 = .ok (.iconst 0, 1) := by decide +kernel
theorem dX0_numberAtFrame_15 : decode cX0_numberAtFrame 15 = .ok (.invokevirtual 19, 3) := by decide +kernel
theorem dX0_numberAtFrame_18 : decode cX0_numberAtFrame 18 = .ok (.iload_n 1, 1) := by decide +kernel
theorem dX0_numberAtFrame_19 : decode cX0_numberAtFrame 19 = .ok (.if_icmp .ne 7, 3) := by decide +kernel
theorem dX0_numberAtFrame_22 : decode cX0_numberAtFrame 22 = .ok (.iload_n 2, 1) := by decide +kernel
theorem dX0_numberAtFrame_23 : decode cX0_numberAtFrame 23 = .ok (.goto 4, 3) := by decide +kernel
theorem dX0_numberAtFrame_26 : decode cX0_numberAtFrame 26 = .ok (.iconst (-1), 1) := by decide +kernel
theorem dX0_numberAtFrame_27 : decode cX0_numberAtFrame 27 = .ok (.ireturn, 1) := by decide +kernel
theorem dX0_become_0 : decode cX0_become 0 = .ok (.aload_n 0, 1) := by decide +kernel
theorem dX0_become_1 : decode cX0_become 1 = .ok (.aload_n 1, 1) := by decide +kernel
theorem dX0_become_2 : decode cX0_become 2 = .ok (.getfield 9, 3) := by decide +kernel
theorem dX0_become_5 : decode cX0_become 5 = .ok (.putfield 9, 3) := by decide +kernel
theorem dX0_become_8 : decode cX0_become 8 = .ok (.aload_n 1, 1) := by decide +kernel
theorem dX0_become_9 : decode cX0_become 9 = .ok (.getfield 15, 3) := by decide +kernel
theorem dX0_become_12 : decode cX0_become 12 = .ok (.iconst 0, 1) := by decide +kernel
theorem dX0_become_13 : decode cX0_become 13 = .ok (.aload_n 0, 1) := by decide +kernel
theorem dX0_become_14 : decode cX0_become 14 = .ok (.getfield 15, 3) := by decide +kernel
theorem dX0_become_17 : decode cX0_become 17 = .ok (.iconst 0, 1) := by decide +kernel
theorem dX0_become_18 : decode cX0_become 18 = .ok (.aload_n 0, 1) := by decide +kernel
theorem dX0_become_19 : decode cX0_become 19 = .ok (.getfield 9, 3) := by decide +kernel
theorem dX0_become_22 : decode cX0_become 22 = .ok (.bipush 6, 2) := by decide +kernel
theorem dX0_become_24 : decode cX0_become 24 = .ok (.imul, 1) := by decide +kernel
theorem dX0_become_25 : decode cX0_become 25 = .ok (.invokestatic 31, 3) := by decide +kernel
theorem dX0_become_28 : decode cX0_become 28 = .ok (.return_, 1) := by decide +kernel
set_option maxRecDepth 20000 in
theorem ggX0_insert_X0_countUpTo : GoodIn wsX0_insert wsX0_countUpTo := goodIn_r _ [11, 1, 12, 13, 14, 10, 15, 2, 20, 21] (by decide +kernel) (by decide +kernel)
set_option maxRecDepth 20000 in
theorem gX0_insert_X0_countUpTo : GoodIn wsX0_insert (wsV RX0 27 RX0 yX0_countUpTo wsX0_countUpTo) := goodIn_app (goodIn_of _ (by decide +kernel)) ggX0_insert_X0_countUpTo
set_option maxRecDepth 20000 in
theorem ggX0_insert_X0_put : GoodIn wsX0_insert wsX0_put := goodIn_r _ [19, 1, 2, 20, 21] (by decide +kernel) (by decide +kernel)
set_option maxRecDepth 20000 in
theorem gX0_insert_X0_put : GoodIn wsX0_insert (wsV RX0 37 RX0 yX0_put wsX0_put) := goodIn_app (goodIn_of _ (by decide +kernel)) ggX0_insert_X0_put
theorem dX0_insert_0 : decode cX0_insert 0 = .ok (.aload_n 0, 1) := by decide +kernel
theorem dX0_insert_1 : decode cX0_insert 1 = .ok (.getfield 9, 3) := by decide +kernel
theorem dX0_insert_4 : decode cX0_insert 4 = .ok (.bipush 16, 2) := by decide +kernel
theorem dX0_insert_6 : decode cX0_insert 6 = .ok (.if_icmp .lt 5, 3) := by decide +kernel
theorem dX0_insert_9 : decode cX0_insert 9 = .ok (.iconst (-1), 1) := by decide +kernel
theorem dX0_insert_10 : decode cX0_insert 10 = .ok (.ireturn, 1) := by decide +kernel
theorem dX0_insert_11 : decode cX0_insert 11 = .ok (.aload_n 0, 1) := by decide +kernel
theorem dX0_insert_12 : decode cX0_insert 12 = .ok (.iload_n 1, 1) := by decide +kernel
theorem dX0_insert_13 : decode cX0_insert 13 = .ok (.invokevirtual 27, 3) := by decide +kernel
theorem dX0_insert_16 : decode cX0_insert 16 = .ok (.istore 7, 2) := by decide +kernel
theorem dX0_insert_18 : decode cX0_insert 18 = .ok (.iload 7, 2) := by decide +kernel
theorem dX0_insert_20 : decode cX0_insert 20 = .ok (.bipush 6, 2) := by decide +kernel
theorem dX0_insert_22 : decode cX0_insert 22 = .ok (.imul, 1) := by decide +kernel
theorem dX0_insert_23 : decode cX0_insert 23 = .ok (.istore 8, 2) := by decide +kernel
theorem dX0_insert_25 : decode cX0_insert 25 = .ok (.aload_n 0, 1) := by decide +kernel
theorem dX0_insert_26 : decode cX0_insert 26 = .ok (.getfield 15, 3) := by decide +kernel
theorem dX0_insert_29 : decode cX0_insert 29 = .ok (.iload 8, 2) := by decide +kernel
theorem dX0_insert_31 : decode cX0_insert 31 = .ok (.aload_n 0, 1) := by decide +kernel
theorem dX0_insert_32 : decode cX0_insert 32 = .ok (.getfield 15, 3) := by decide +kernel
theorem dX0_insert_35 : decode cX0_insert 35 = .ok (.iload 8, 2) := by decide +kernel
theorem dX0_insert_37 : decode cX0_insert 37 = .ok (.bipush 6, 2) := by decide +kernel
theorem dX0_insert_39 : decode cX0_insert 39 = .ok (.iadd, 1) := by decide +kernel
theorem dX0_insert_40 : decode cX0_insert 40 = .ok (.aload_n 0, 1) := by decide +kernel
theorem dX0_insert_41 : decode cX0_insert 41 = .ok (.getfield 9, 3) := by decide +kernel
theorem dX0_insert_44 : decode cX0_insert 44 = .ok (.iload 7, 2) := by decide +kernel
theorem dX0_insert_46 : decode cX0_insert 46 = .ok (.isub, 1) := by decide +kernel
theorem dX0_insert_47 : decode cX0_insert 47 = .ok (.bipush 6, 2) := by decide +kernel
theorem dX0_insert_49 : decode cX0_insert 49 = .ok (.imul, 1) := by decide +kernel
theorem dX0_insert_50 : decode cX0_insert 50 = .ok (.invokestatic 31, 3) := by decide +kernel
theorem dX0_insert_53 : decode cX0_insert 53 = .ok (.aload_n 0, 1) := by decide +kernel
theorem dX0_insert_54 : decode cX0_insert 54 = .ok (.dup, 1) := by decide +kernel
theorem dX0_insert_55 : decode cX0_insert 55 = .ok (.getfield 9, 3) := by decide +kernel
theorem dX0_insert_58 : decode cX0_insert 58 = .ok (.iconst 1, 1) := by decide +kernel
theorem dX0_insert_59 : decode cX0_insert 59 = .ok (.iadd, 1) := by decide +kernel
theorem dX0_insert_60 : decode cX0_insert 60 = .ok (.putfield 9, 3) := by decide +kernel
theorem dX0_insert_63 : decode cX0_insert 63 = .ok (.aload_n 0, 1) := by decide +kernel
theorem dX0_insert_64 : decode cX0_insert 64 = .ok (.iload 7, 2) := by decide +kernel
theorem dX0_insert_66 : decode cX0_insert 66 = .ok (.iconst 0, 1) := by decide +kernel
theorem dX0_insert_67 : decode cX0_insert 67 = .ok (.iload_n 1, 1) := by decide +kernel
theorem dX0_insert_68 : decode cX0_insert 68 = .ok (.invokevirtual 37, 3) := by decide +kernel
theorem dX0_insert_71 : decode cX0_insert 71 = .ok (.aload_n 0, 1) := by decide +kernel
theorem dX0_insert_72 : decode cX0_insert 72 = .ok (.iload 7, 2) := by decide +kernel
theorem dX0_insert_74 : decode cX0_insert 74 = .ok (.iconst 1, 1) := by decide +kernel
theorem dX0_insert_75 : decode cX0_insert 75 = .ok (.iload_n 2, 1) := by decide +kernel
theorem dX0_insert_76 : decode cX0_insert 76 = .ok (.invokevirtual 37, 3) := by decide +kernel
theorem dX0_insert_79 : decode cX0_insert 79 = .ok (.aload_n 0, 1) := by decide +kernel
theorem dX0_insert_80 : decode cX0_insert 80 = .ok (.iload 7, 2) := by decide +kernel
theorem dX0_insert_82 : decode cX0_insert 82 = .ok (.iconst 2, 1) := by decide +kernel
theorem dX0_insert_83 : decode cX0_insert 83 = .ok (.iload_n 3, 1) := by decide +kernel
theorem dX0_insert_84 : decode cX0_insert 84 = .ok (.invokevirtual 37, 3) := by decide +kernel
theorem dX0_insert_87 : decode cX0_insert 87 = .ok (.aload_n 0, 1) := by decide +kernel
theorem dX0_insert_88 : decode cX0_insert 88 = .ok (.iload 7, 2) := by decide +kernel
theorem dX0_insert_90 : decode cX0_insert 90 = .ok (.iconst 3, 1) := by decide +kernel
theorem dX0_insert_91 : decode cX0_insert 91 = .ok (.iload 4, 2) := by decide +kernel
theorem dX0_insert_93 : decode cX0_insert 93 = .ok (.invokevirtual 37, 3) := by decide +kernel
theorem dX0_insert_96 : decode cX0_insert 96 = .ok (.aload_n 0, 1) := by decide +kernel
theorem dX0_insert_97 : decode cX0_insert 97 = .ok (.iload 7, 2) := by decide +kernel
theorem dX0_insert_99 : decode cX0_insert 99 = .ok (.iconst 4, 1) := by decide +kernel
theorem dX0_insert_100 : decode cX0_insert 100 = .ok (.iload 5, 2) := by decide +kernel
theorem dX0_insert_102 : decode cX0_insert 102 = .ok (.invokevirtual 37, 3) := by decide +kernel
theorem dX0_insert_105 : decode cX0_insert 105 = .ok (.aload_n 0, 1) := by decide +kernel
theorem dX0_insert_106 : decode cX0_insert 106 = .ok (.iload 7, 2) := by decide +kernel
theorem dX0_insert_108 : decode cX0_insert 108 = .ok (.iconst 5, 1) := by decide +kernel
theorem dX0_insert_109 : decode cX0_insert 109 = .ok (.iload 6, 2) := by decide +kernel
theorem dX0_insert_111 : decode cX0_insert 111 = .ok (.invokevirtual 37, 3) := by decide +kernel
theorem dX0_insert_114 : decode cX0_insert 114 = .ok (.iload 7, 2) := by decide +kernel
theorem dX0_insert_116 : decode cX0_insert 116 = .ok (.ireturn, 1) := by decide +kernel
theorem dX0_takeOut_0 : decode cX0_takeOut 0 = .ok (.iload_n 1, 1) := by decide +kernel
theorem dX0_takeOut_1 : decode cX0_takeOut 1 = .ok (.ifCond .lt 11, 3) := by decide +kernel
theorem dX0_takeOut_4 : decode cX0_takeOut 4 = .ok (.iload_n 1, 1) := by decide +kernel
theorem dX0_takeOut_5 : decode cX0_takeOut 5 = .ok (.aload_n 0, 1) := by decide +kernel
theorem dX0_takeOut_6 : decode cX0_takeOut 6 = .ok (.getfield 9, 3) := by decide +kernel
theorem dX0_takeOut_9 : decode cX0_takeOut 9 = .ok (.if_icmp .lt 4, 3) := by decide +kernel
theorem dX0_takeOut_12 : decode cX0_takeOut 12 = .ok (.return_, 1) := by decide +kernel
theorem dX0_takeOut_13 : decode cX0_takeOut 13 = .ok (.iload_n 1, 1) := by decide +kernel
theorem dX0_takeOut_14 : decode cX0_takeOut 14 = .ok (.iconst 1, 1) := by decide +kernel
theorem dX0_takeOut_15 : decode cX0_takeOut 15 = .ok (.iadd, 1) := by decide +kernel
theorem dX0_takeOut_16 : decode cX0_takeOut 16 = .ok (.bipush 6, 2) := by decide +kernel
theorem dX0_takeOut_18 : decode cX0_takeOut 18 = .ok (.imul, 1) := by decide +kernel
theorem dX0_takeOut_19 : decode cX0_takeOut 19 = .ok (.istore_n 2, 1) := by decide +kernel
theorem dX0_takeOut_20 : decode cX0_takeOut 20 = .ok (.aload_n 0, 1) := by decide +kernel
theorem dX0_takeOut_21 : decode cX0_takeOut 21 = .ok (.getfield 15, 3) := by decide +kernel
theorem dX0_takeOut_24 : decode cX0_takeOut 24 = .ok (.iload_n 2, 1) := by decide +kernel
theorem dX0_takeOut_25 : decode cX0_takeOut 25 = .ok (.aload_n 0, 1) := by decide +kernel
theorem dX0_takeOut_26 : decode cX0_takeOut 26 = .ok (.getfield 15, 3) := by decide +kernel
theorem dX0_takeOut_29 : decode cX0_takeOut 29 = .ok (.iload_n 2, 1) := by decide +kernel
theorem dX0_takeOut_30 : decode cX0_takeOut 30 = .ok (.bipush 6, 2) := by decide +kernel
theorem dX0_takeOut_32 : decode cX0_takeOut 32 = .ok (.isub, 1) := by decide +kernel
theorem dX0_takeOut_33 : decode cX0_takeOut 33 = .ok (.aload_n 0, 1) := by decide +kernel
theorem dX0_takeOut_34 : decode cX0_takeOut 34 = .ok (.getfield 9, 3) := by decide +kernel
theorem dX0_takeOut_37 : decode cX0_takeOut 37 = .ok (.bipush 6, 2) := by decide +kernel
theorem dX0_takeOut_39 : decode cX0_takeOut 39 = .ok (.imul, 1) := by decide +kernel
theorem dX0_takeOut_40 : decode cX0_takeOut 40 = .ok (.iload_n 2, 1) := by decide +kernel
theorem dX0_takeOut_41 : decode cX0_takeOut 41 = .ok (.isub, 1) := by decide +kernel
theorem dX0_takeOut_42 : decode cX0_takeOut 42 = .ok (.invokestatic 31, 3) := by decide +kernel
theorem dX0_takeOut_45 : decode cX0_takeOut 45 = .ok (.aload_n 0, 1) := by decide +kernel
theorem dX0_takeOut_46 : decode cX0_takeOut 46 = .ok (.dup, 1) := by decide +kernel
theorem dX0_takeOut_47 : decode cX0_takeOut 47 = .ok (.getfield 9, 3) := by decide +kernel
theorem dX0_takeOut_50 : decode cX0_takeOut 50 = .ok (.iconst 1, 1) := by decide +kernel
theorem dX0_takeOut_51 : decode cX0_takeOut 51 = .ok (.isub, 1) := by decide +kernel
theorem dX0_takeOut_52 : decode cX0_takeOut 52 = .ok (.putfield 9, 3) := by decide +kernel
theorem dX0_takeOut_55 : decode cX0_takeOut 55 = .ok (.return_, 1) := by decide +kernel
set_option maxRecDepth 20000 in
theorem ggX0_moveTo_X0_cell : GoodIn wsX0_moveTo wsX0_cell := goodIn_r _ [5, 6, 7, 28, 29] (by decide +kernel) (by decide +kernel)
set_option maxRecDepth 20000 in
theorem gX0_moveTo_X0_cell : GoodIn wsX0_moveTo (wsV RX0 19 RX0 yX0_cell wsX0_cell) := goodIn_app (goodIn_of _ (by decide +kernel)) ggX0_moveTo_X0_cell
set_option maxRecDepth 20000 in
theorem ggX0_moveTo_X0_takeOut : GoodIn wsX0_moveTo wsX0_takeOut := goodIn_r _ [11, 6, 7, 12, 13, 14, 15, 28, 29] (by decide +kernel) (by decide +kernel)
set_option maxRecDepth 20000 in
theorem gX0_moveTo_X0_takeOut : GoodIn wsX0_moveTo (wsV RX0 41 RX0 yX0_takeOut wsX0_takeOut) := goodIn_app (goodIn_of _ (by decide +kernel)) ggX0_moveTo_X0_takeOut
set_option maxRecDepth 20000 in
theorem ggX0_moveTo_X0_insert : GoodIn wsX0_moveTo wsX0_insert := goodIn_r _ [19, 6, 7, 12, 13, 14, 15, 20, 21, 22, 4, 23, 1, 2, 3, 5, 24, 25, 26, 27, 28, 29] (by decide +kernel) (by decide +kernel)
set_option maxRecDepth 20000 in
theorem gX0_moveTo_X0_insert : GoodIn wsX0_moveTo (wsV RX0 45 RX0 yX0_insert wsX0_insert) := goodIn_app (goodIn_of _ (by decide +kernel)) ggX0_moveTo_X0_insert
theorem dX0_moveTo_0 : decode cX0_moveTo 0 = .ok (.aload_n 0, 1) := by decide +kernel
theorem dX0_moveTo_1 : decode cX0_moveTo 1 = .ok (.iload_n 1, 1) := by decide +kernel
theorem dX0_moveTo_2 : decode cX0_moveTo 2 = .ok (.iconst 1, 1) := by decide +kernel
theorem dX0_moveTo_3 : decode cX0_moveTo 3 = .ok (.invokevirtual 19, 3) := by decide +kernel
theorem dX0_moveTo_6 : decode cX0_moveTo 6 = .ok (.istore_n 3, 1) := by decide +kernel
theorem dX0_moveTo_7 : decode cX0_moveTo 7 = .ok (.aload_n 0, 1) := by decide +kernel
theorem dX0_moveTo_8 : decode cX0_moveTo 8 = .ok (.iload_n 1, 1) := by decide +kernel
theorem dX0_moveTo_9 : decode cX0_moveTo 9 = .ok (.iconst 2, 1) := by decide +kernel
theorem dX0_moveTo_10 : decode cX0_moveTo 10 = .ok (.invokevirtual 19, 3) := by decide +kernel
theorem dX0_moveTo_13 : decode cX0_moveTo 13 = .ok (.istore 4, 2) := by decide +kernel
theorem dX0_moveTo_15 : decode cX0_moveTo 15 = .ok (.aload_n 0, 1) := by decide +kernel
theorem dX0_moveTo_16 : decode cX0_moveTo 16 = .ok (.iload_n 1, 1) := by decide +kernel
theorem dX0_moveTo_17 : decode cX0_moveTo 17 = .ok (.iconst 3, 1) := by decide +kernel
theorem dX0_moveTo_18 : decode cX0_moveTo 18 = .ok (.invokevirtual 19, 3) := by decide +kernel
theorem dX0_moveTo_21 : decode cX0_moveTo 21 = .ok (.istore 5, 2) := by decide +kernel
theorem dX0_moveTo_23 : decode cX0_moveTo 23 = .ok (.aload_n 0, 1) := by decide +kernel
theorem dX0_moveTo_24 : decode cX0_moveTo 24 = .ok (.iload_n 1, 1) := by decide +kernel
theorem dX0_moveTo_25 : decode cX0_moveTo 25 = .ok (.iconst 4, 1) := by decide +kernel
theorem dX0_moveTo_26 : decode cX0_moveTo 26 = .ok (.invokevirtual 19, 3) := by decide +kernel
theorem dX0_moveTo_29 : decode cX0_moveTo 29 = .ok (.istore 6, 2) := by decide +kernel
theorem dX0_moveTo_31 : decode cX0_moveTo 31 = .ok (.aload_n 0, 1) := by decide +kernel
theorem dX0_moveTo_32 : decode cX0_moveTo 32 = .ok (.iload_n 1, 1) := by decide +kernel
theorem dX0_moveTo_33 : decode cX0_moveTo 33 = .ok (.iconst 5, 1) := by decide +kernel
theorem dX0_moveTo_34 : decode cX0_moveTo 34 = .ok (.invokevirtual 19, 3) := by decide +kernel
theorem dX0_moveTo_37 : decode cX0_moveTo 37 = .ok (.istore 7, 2) := by decide +kernel
theorem dX0_moveTo_39 : decode cX0_moveTo 39 = .ok (.aload_n 0, 1) := by decide +kernel
theorem dX0_moveTo_40 : decode cX0_moveTo 40 = .ok (.iload_n 1, 1) := by decide +kernel
theorem dX0_moveTo_41 : decode cX0_moveTo 41 = .ok (.invokevirtual 41, 3) := by decide +kernel
theorem dX0_moveTo_44 : decode cX0_moveTo 44 = .ok (.aload_n 0, 1) := by decide +kernel
theorem dX0_moveTo_45 : decode cX0_moveTo 45 = .ok (.iload_n 2, 1) := by decide +kernel
theorem dX0_moveTo_46 : decode cX0_moveTo 46 = .ok (.iload_n 3, 1) := by decide +kernel
theorem dX0_moveTo_47 : decode cX0_moveTo 47 = .ok (.iload 4, 2) := by decide +kernel
theorem dX0_moveTo_49 : decode cX0_moveTo 49 = .ok (.iload 5, 2) := by decide +kernel
theorem dX0_moveTo_51 : decode cX0_moveTo 51 = .ok (.iload 6, 2) := by decide +kernel
theorem dX0_moveTo_53 : decode cX0_moveTo 53 = .ok (.iload 7, 2) := by decide +kernel
theorem dX0_moveTo_55 : decode cX0_moveTo 55 = .ok (.invokevirtual 45, 3) := by decide +kernel
theorem dX0_moveTo_58 : decode cX0_moveTo 58 = .ok (.ireturn, 1) := by decide +kernel
set_option maxRecDepth 20000 in
theorem ggX0_canRaise_X0_cell : GoodIn wsX0_canRaise wsX0_cell := goodIn_r _ [10, 1, 11, 12, 13] (by decide +kernel) (by decide +kernel)
set_option maxRecDepth 20000 in
theorem gX0_canRaise_X0_cell : GoodIn wsX0_canRaise (wsV RX0 19 RX0 yX0_cell wsX0_cell) := goodIn_app (goodIn_of _ (by decide +kernel)) ggX0_canRaise_X0_cell
theorem dX0_canRaise_0 : decode cX0_canRaise 0 = .ok (.iconst 0, 1) := by decide +kernel
theorem dX0_canRaise_1 : decode cX0_canRaise 1 = .ok (.istore_n 2, 1) := by decide +kernel
theorem dX0_canRaise_2 : decode cX0_canRaise 2 = .ok (.iload_n 2, 1) := by decide +kernel
theorem dX0_canRaise_3 : decode cX0_canRaise 3 = .ok (.aload_n 0, 1) := by decide +kernel
theorem dX0_canRaise_4 : decode cX0_canRaise 4 = .ok (.getfield 9, 3) := by decide +kernel
theorem dX0_canRaise_7 : decode cX0_canRaise 7 = .ok (.if_icmp .ge 28, 3) := by decide +kernel
theorem dX0_canRaise_10 : decode cX0_canRaise 10 = .ok (.aload_n 0, 1) := by decide +kernel
theorem dX0_canRaise_11 : decode cX0_canRaise 11 = .ok (.iload_n 2, 1) := by decide +kernel
theorem dX0_canRaise_12 : decode cX0_canRaise 12 = .ok (.iconst 1, 1) := by decide +kernel
theorem dX0_canRaise_13 : decode cX0_canRaise 13 = .ok (.invokevirtual 19, 3) := by decide +kernel
theorem dX0_canRaise_16 : decode cX0_canRaise 16 = .ok (.iload_n 1, 1) := by decide +kernel
theorem dX0_canRaise_17 : decode cX0_canRaise 17 = .ok (.iadd, 1) := by decide +kernel
theorem dX0_canRaise_18 : decode cX0_canRaise 18 = .ok (.invokestatic 49, 3) := by decide +kernel
theorem dX0_canRaise_21 : decode cX0_canRaise 21 = .ok (.sipush 9999, 3) := by decide +kernel
theorem dX0_canRaise_24 : decode cX0_canRaise 24 = .ok (.if_icmp .le 5, 3) := by decide +kernel
theorem dX0_canRaise_27 : decode cX0_canRaise 27 = .ok (.iconst 0, 1) := by decide +kernel
theorem dX0_canRaise_28 : decode cX0_canRaise 28 = .ok (.ireturn, 1) := by decide +kernel
theorem dX0_canRaise_29 : decode cX0_canRaise 29 = .ok (.iinc 2 1, 3) := by decide +kernel
theorem dX0_canRaise_32 : decode cX0_canRaise 32 = .ok (.goto (-30), 3) := by decide +kernel
theorem dX0_canRaise_35 : decode cX0_canRaise 35 = .ok (.iconst 1, 1) := by decide +kernel
theorem dX0_canRaise_36 : decode cX0_canRaise 36 = .ok (.ireturn, 1) := by decide +kernel
set_option maxRecDepth 20000 in
theorem ggX0_raise_X0_cell : GoodIn wsX0_raise wsX0_cell := goodIn_r _ [6, 1, 7, 12, 13] (by decide +kernel) (by decide +kernel)
set_option maxRecDepth 20000 in
theorem gX0_raise_X0_cell : GoodIn wsX0_raise (wsV RX0 19 RX0 yX0_cell wsX0_cell) := goodIn_app (goodIn_of _ (by decide +kernel)) ggX0_raise_X0_cell
set_option maxRecDepth 20000 in
theorem ggX0_raise_X0_put : GoodIn wsX0_raise wsX0_put := goodIn_r _ [11, 1, 7, 12, 13] (by decide +kernel) (by decide +kernel)
set_option maxRecDepth 20000 in
theorem gX0_raise_X0_put : GoodIn wsX0_raise (wsV RX0 37 RX0 yX0_put wsX0_put) := goodIn_app (goodIn_of _ (by decide +kernel)) ggX0_raise_X0_put
theorem dX0_raise_0 : decode cX0_raise 0 = .ok (.iconst 0, 1) := by decide +kernel
theorem dX0_raise_1 : decode cX0_raise 1 = .ok (.istore_n 2, 1) := by decide +kernel
theorem dX0_raise_2 : decode cX0_raise 2 = .ok (.iload_n 2, 1) := by decide +kernel
theorem dX0_raise_3 : decode cX0_raise 3 = .ok (.aload_n 0, 1) := by decide +kernel
theorem dX0_raise_4 : decode cX0_raise 4 = .ok (.getfield 9, 3) := by decide +kernel
theorem dX0_raise_7 : decode cX0_raise 7 = .ok (.if_icmp .ge 23, 3) := by decide +kernel
theorem dX0_raise_10 : decode cX0_raise 10 = .ok (.aload_n 0, 1) := by decide +kernel
theorem dX0_raise_11 : decode cX0_raise 11 = .ok (.iload_n 2, 1) := by decide +kernel
theorem dX0_raise_12 : decode cX0_raise 12 = .ok (.iconst 1, 1) := by decide +kernel
theorem dX0_raise_13 : decode cX0_raise 13 = .ok (.aload_n 0, 1) := by decide +kernel
theorem dX0_raise_14 : decode cX0_raise 14 = .ok (.iload_n 2, 1) := by decide +kernel
theorem dX0_raise_15 : decode cX0_raise 15 = .ok (.iconst 1, 1) := by decide +kernel
theorem dX0_raise_16 : decode cX0_raise 16 = .ok (.invokevirtual 19, 3) := by decide +kernel
theorem dX0_raise_19 : decode cX0_raise 19 = .ok (.iload_n 1, 1) := by decide +kernel
theorem dX0_raise_20 : decode cX0_raise 20 = .ok (.iadd, 1) := by decide +kernel
theorem dX0_raise_21 : decode cX0_raise 21 = .ok (.invokevirtual 37, 3) := by decide +kernel
theorem dX0_raise_24 : decode cX0_raise 24 = .ok (.iinc 2 1, 3) := by decide +kernel
theorem dX0_raise_27 : decode cX0_raise 27 = .ok (.goto (-25), 3) := by decide +kernel
theorem dX0_raise_30 : decode cX0_raise 30 = .ok (.return_, 1) := by decide +kernel
set_option maxRecDepth 20000 in
theorem ggX0_canStretch_X0_cell : GoodIn wsX0_canStretch wsX0_cell := goodIn_r _ [6, 1, 7, 15, 16] (by decide +kernel) (by decide +kernel)
set_option maxRecDepth 20000 in
theorem gX0_canStretch_X0_cell : GoodIn wsX0_canStretch (wsV RX0 19 RX0 yX0_cell wsX0_cell) := goodIn_app (goodIn_of _ (by decide +kernel)) ggX0_canStretch_X0_cell
set_option maxRecDepth 20000 in
theorem ggX0_canStretch_X0_stretchedFrame : GoodIn wsX0_canStretch wsX0_stretchedFrame := goodIn_r _ [10] (by decide +kernel) (by decide +kernel)
set_option maxRecDepth 20000 in
theorem gX0_canStretch_X0_stretchedFrame : GoodIn wsX0_canStretch (va_wsS RX0 54 yX0_stretchedFrame wsX0_stretchedFrame) := goodIn_app (goodIn_of _ (by decide +kernel)) ggX0_canStretch_X0_stretchedFrame
set_option maxRecDepth 20000 in
theorem ggX0_canStretch_X0_isLocked : GoodIn wsX0_canStretch wsX0_isLocked := goodIn_r _ [14, 2, 3, 4, 5, 6, 1, 7, 15, 16] (by decide +kernel) (by decide +kernel)
set_option maxRecDepth 20000 in
theorem gX0_canStretch_X0_isLocked : GoodIn wsX0_canStretch (wsV RX0 23 RX0 yX0_isLocked wsX0_isLocked) := goodIn_app (goodIn_of _ (by decide +kernel)) ggX0_canStretch_X0_isLocked
theorem dX0_canStretch_0 : decode cX0_canStretch 0 = .ok (.iconst (-1), 1) := by decide +kernel
theorem dX0_canStretch_1 : decode cX0_canStretch 1 = .ok (.istore 4, 2) := by decide +kernel
theorem dX0_canStretch_3 : decode cX0_canStretch 3 = .ok (.iconst 0, 1) := by decide +kernel
theorem dX0_canStretch_4 : decode cX0_canStretch 4 = .ok (.istore 5, 2) := by decide +kernel
theorem dX0_canStretch_6 : decode cX0_canStretch 6 = .ok (.iload 5, 2) := by decide +kernel
theorem dX0_canStretch_8 : decode cX0_canStretch 8 = .ok (.aload_n 0, 1) := by decide +kernel
theorem dX0_canStretch_9 : decode cX0_canStretch 9 = .ok (.getfield 9, 3) := by decide +kernel
theorem dX0_canStretch_12 : decode cX0_canStretch 12 = .ok (.if_icmp .ge 65, 3) := by decide +kernel
theorem dX0_canStretch_15 : decode cX0_canStretch 15 = .ok (.aload_n 0, 1) := by decide +kernel
theorem dX0_canStretch_16 : decode cX0_canStretch 16 = .ok (.iload 5, 2) := by decide +kernel
theorem dX0_canStretch_18 : decode cX0_canStretch 18 = .ok (.iconst 0, 1) := by decide +kernel
theorem dX0_canStretch_19 : decode cX0_canStretch 19 = .ok (.invokevirtual 19, 3) := by decide +kernel
theorem dX0_canStretch_22 : decode cX0_canStretch 22 = .ok (.istore 6, 2) := by decide +kernel
theorem dX0_canStretch_24 : decode cX0_canStretch 24 = .ok (.iload 6, 2) := by decide +kernel
theorem dX0_canStretch_26 : decode cX0_canStretch 26 = .ok (.iload_n 1, 1) := by decide +kernel
theorem dX0_canStretch_27 : decode cX0_canStretch 27 = .ok (.iload_n 2, 1) := by decide +kernel
theorem dX0_canStretch_28 : decode cX0_canStretch 28 = .ok (.iload_n 3, 1) := by decide +kernel
theorem dX0_canStretch_29 : decode cX0_canStretch 29 = .ok (.invokestatic 54, 3) := by decide +kernel
theorem dX0_canStretch_32 : decode cX0_canStretch 32 = .ok (.istore 7, 2) := by decide +kernel
theorem dX0_canStretch_34 : decode cX0_canStretch 34 = .ok (.iload 7, 2) := by decide +kernel
theorem dX0_canStretch_36 : decode cX0_canStretch 36 = .ok (.sipush 999, 3) := by decide +kernel
theorem dX0_canStretch_39 : decode cX0_canStretch 39 = .ok (.if_icmp .gt 26, 3) := by decide +kernel
theorem dX0_canStretch_42 : decode cX0_canStretch 42 = .ok (.iload 7, 2) := by decide +kernel
theorem dX0_canStretch_44 : decode cX0_canStretch 44 = .ok (.iload 4, 2) := by decide +kernel
theorem dX0_canStretch_46 : decode cX0_canStretch 46 = .ok (.if_icmp .eq 19, 3) := by decide +kernel
theorem dX0_canStretch_49 : decode cX0_canStretch 49 = .ok (.aload_n 0, 1) := by decide +kernel
theorem dX0_canStretch_50 : decode cX0_canStretch 50 = .ok (.iload 5, 2) := by decide +kernel
theorem dX0_canStretch_52 : decode cX0_canStretch 52 = .ok (.invokevirtual 23, 3) := by decide +kernel
theorem dX0_canStretch_55 : decode cX0_canStretch 55 = .ok (.ifCond .eq 12, 3) := by decide +kernel
theorem dX0_canStretch_58 : decode cX0_canStretch 58 = .ok (.iload 7, 2) := by decide +kernel
theorem dX0_canStretch_60 : decode cX0_canStretch 60 = .ok (.iload 6, 2) := by decide +kernel
theorem dX0_canStretch_62 : decode cX0_canStretch 62 = .ok (.if_icmp .eq 5, 3) := by decide +kernel
theorem dX0_canStretch_65 : decode cX0_canStretch 65 = .ok (.iconst 0, 1) := by decide +kernel
theorem dX0_canStretch_66 : decode cX0_canStretch 66 = .ok (.ireturn, 1) := by decide +kernel
theorem dX0_canStretch_67 : decode cX0_canStretch 67 = .ok (.iload 7, 2) := by decide +kernel
theorem dX0_canStretch_69 : decode cX0_canStretch 69 = .ok (.istore 4, 2) := by decide +kernel
theorem dX0_canStretch_71 : decode cX0_canStretch 71 = .ok (.iinc 5 1, 3) := by decide +kernel
theorem dX0_canStretch_74 : decode cX0_canStretch 74 = .ok (.goto (-68), 3) := by decide +kernel
theorem dX0_canStretch_77 : decode cX0_canStretch 77 = .ok (.iconst 1, 1) := by decide +kernel
theorem dX0_canStretch_78 : decode cX0_canStretch 78 = .ok (.ireturn, 1) := by decide +kernel
set_option maxRecDepth 20000 in
theorem ggX0_stretchSpan_X0_cell : GoodIn wsX0_stretchSpan wsX0_cell := goodIn_r _ [6, 1, 7, 15, 16] (by decide +kernel) (by decide +kernel)
set_option maxRecDepth 20000 in
theorem gX0_stretchSpan_X0_cell : GoodIn wsX0_stretchSpan (wsV RX0 19 RX0 yX0_cell wsX0_cell) := goodIn_app (goodIn_of _ (by decide +kernel)) ggX0_stretchSpan_X0_cell
set_option maxRecDepth 20000 in
theorem ggX0_stretchSpan_X0_stretchedFrame : GoodIn wsX0_stretchSpan wsX0_stretchedFrame := goodIn_r _ [10] (by decide +kernel) (by decide +kernel)
set_option maxRecDepth 20000 in
theorem gX0_stretchSpan_X0_stretchedFrame : GoodIn wsX0_stretchSpan (va_wsS RX0 54 yX0_stretchedFrame wsX0_stretchedFrame) := goodIn_app (goodIn_of _ (by decide +kernel)) ggX0_stretchSpan_X0_stretchedFrame
set_option maxRecDepth 20000 in
theorem ggX0_stretchSpan_X0_put : GoodIn wsX0_stretchSpan wsX0_put := goodIn_r _ [14, 1, 7, 15, 16] (by decide +kernel) (by decide +kernel)
set_option maxRecDepth 20000 in
theorem gX0_stretchSpan_X0_put : GoodIn wsX0_stretchSpan (wsV RX0 37 RX0 yX0_put wsX0_put) := goodIn_app (goodIn_of _ (by decide +kernel)) ggX0_stretchSpan_X0_put
theorem dX0_stretchSpan_0 : decode cX0_stretchSpan 0 = .ok (.iconst 0, 1) := by decide +kernel
theorem dX0_stretchSpan_1 : decode cX0_stretchSpan 1 = .ok (.istore 4, 2) := by decide +kernel
theorem dX0_stretchSpan_3 : decode cX0_stretchSpan 3 = .ok (.iconst 0, 1) := by decide +kernel
theorem dX0_stretchSpan_4 : decode cX0_stretchSpan 4 = .ok (.istore 5, 2) := by decide +kernel
theorem dX0_stretchSpan_6 : decode cX0_stretchSpan 6 = .ok (.iload 5, 2) := by decide +kernel
theorem dX0_stretchSpan_8 : decode cX0_stretchSpan 8 = .ok (.aload_n 0, 1) := by decide +kernel
theorem dX0_stretchSpan_9 : decode cX0_stretchSpan 9 = .ok (.getfield 9, 3) := by decide +kernel
theorem dX0_stretchSpan_12 : decode cX0_stretchSpan 12 = .ok (.if_icmp .ge 47, 3) := by decide +kernel
theorem dX0_stretchSpan_15 : decode cX0_stretchSpan 15 = .ok (.aload_n 0, 1) := by decide +kernel
theorem dX0_stretchSpan_16 : decode cX0_stretchSpan 16 = .ok (.iload 5, 2) := by decide +kernel
theorem dX0_stretchSpan_18 : decode cX0_stretchSpan 18 = .ok (.iconst 0, 1) := by decide +kernel
theorem dX0_stretchSpan_19 : decode cX0_stretchSpan 19 = .ok (.invokevirtual 19, 3) := by decide +kernel
theorem dX0_stretchSpan_22 : decode cX0_stretchSpan 22 = .ok (.istore 6, 2) := by decide +kernel
theorem dX0_stretchSpan_24 : decode cX0_stretchSpan 24 = .ok (.iload 6, 2) := by decide +kernel
theorem dX0_stretchSpan_26 : decode cX0_stretchSpan 26 = .ok (.iload_n 1, 1) := by decide +kernel
theorem dX0_stretchSpan_27 : decode cX0_stretchSpan 27 = .ok (.iload_n 2, 1) := by decide +kernel
theorem dX0_stretchSpan_28 : decode cX0_stretchSpan 28 = .ok (.iload_n 3, 1) := by decide +kernel
theorem dX0_stretchSpan_29 : decode cX0_stretchSpan 29 = .ok (.invokestatic 54, 3) := by decide +kernel
theorem dX0_stretchSpan_32 : decode cX0_stretchSpan 32 = .ok (.istore 7, 2) := by decide +kernel
theorem dX0_stretchSpan_34 : decode cX0_stretchSpan 34 = .ok (.iload 7, 2) := by decide +kernel
theorem dX0_stretchSpan_36 : decode cX0_stretchSpan 36 = .ok (.iload 6, 2) := by decide +kernel
theorem dX0_stretchSpan_38 : decode cX0_stretchSpan 38 = .ok (.if_icmp .eq 6, 3) := by decide +kernel
theorem dX0_stretchSpan_41 : decode cX0_stretchSpan 41 = .ok (.iinc 4 1, 3) := by decide +kernel
theorem dX0_stretchSpan_44 : decode cX0_stretchSpan 44 = .ok (.aload_n 0, 1) := by decide +kernel
theorem dX0_stretchSpan_45 : decode cX0_stretchSpan 45 = .ok (.iload 5, 2) := by decide +kernel
theorem dX0_stretchSpan_47 : decode cX0_stretchSpan 47 = .ok (.iconst 0, 1) := by decide +kernel
theorem dX0_stretchSpan_48 : decode cX0_stretchSpan 48 = .ok (.iload 7, 2) := by decide +kernel
theorem dX0_stretchSpan_50 : decode cX0_stretchSpan 50 = .ok (.invokevirtual 37, 3) := by decide +kernel
theorem dX0_stretchSpan_53 : decode cX0_stretchSpan 53 = .ok (.iinc 5 1, 3) := by decide +kernel
theorem dX0_stretchSpan_56 : decode cX0_stretchSpan 56 = .ok (.goto (-50), 3) := by decide +kernel
theorem dX0_stretchSpan_59 : decode cX0_stretchSpan 59 = .ok (.iload 4, 2) := by decide +kernel
theorem dX0_stretchSpan_61 : decode cX0_stretchSpan 61 = .ok (.ireturn, 1) := by decide +kernel
theorem dX0_stretchedFrame_0 : decode cX0_stretchedFrame 0 = .ok (.iload_n 0, 1) := by decide +kernel
theorem dX0_stretchedFrame_1 : decode cX0_stretchedFrame 1 = .ok (.iload_n 1, 1) := by decide +kernel
theorem dX0_stretchedFrame_2 : decode cX0_stretchedFrame 2 = .ok (.if_icmp .ge 5, 3) := by decide +kernel
theorem dX0_stretchedFrame_5 : decode cX0_stretchedFrame 5 = .ok (.iload_n 0, 1) := by decide +kernel
theorem dX0_stretchedFrame_6 : decode cX0_stretchedFrame 6 = .ok (.ireturn, 1) := by decide +kernel
theorem dX0_stretchedFrame_7 : decode cX0_stretchedFrame 7 = .ok (.iload_n 0, 1) := by decide +kernel
theorem dX0_stretchedFrame_8 : decode cX0_stretchedFrame 8 = .ok (.iload_n 2, 1) := by decide +kernel
theorem dX0_stretchedFrame_9 : decode cX0_stretchedFrame 9 = .ok (.if_icmp .gt 14, 3) := by decide +kernel
theorem dX0_stretchedFrame_12 : decode cX0_stretchedFrame 12 = .ok (.iload_n 1, 1) := by decide +kernel
theorem dX0_stretchedFrame_13 : decode cX0_stretchedFrame 13 = .ok (.iload_n 0, 1) := by decide +kernel
theorem dX0_stretchedFrame_14 : decode cX0_stretchedFrame 14 = .ok (.iload_n 1, 1) := by decide +kernel
theorem dX0_stretchedFrame_15 : decode cX0_stretchedFrame 15 = .ok (.isub, 1) := by decide +kernel
theorem dX0_stretchedFrame_16 : decode cX0_stretchedFrame 16 = .ok (.iload_n 3, 1) := by decide +kernel
theorem dX0_stretchedFrame_17 : decode cX0_stretchedFrame 17 = .ok (.imul, 1) := by decide +kernel
theorem dX0_stretchedFrame_18 : decode cX0_stretchedFrame 18 = .ok (.bipush 100, 2) := by decide +kernel
theorem dX0_stretchedFrame_20 : decode cX0_stretchedFrame 20 = .ok (.idiv, 1) := by decide +kernel
theorem dX0_stretchedFrame_21 : decode cX0_stretchedFrame 21 = .ok (.iadd, 1) := by decide +kernel
theorem dX0_stretchedFrame_22 : decode cX0_stretchedFrame 22 = .ok (.ireturn, 1) := by decide +kernel
theorem dX0_stretchedFrame_23 : decode cX0_stretchedFrame 23 = .ok (.iload_n 0, 1) := by decide +kernel
theorem dX0_stretchedFrame_24 : decode cX0_stretchedFrame 24 = .ok (.iload_n 2, 1) := by decide +kernel
theorem dX0_stretchedFrame_25 : decode cX0_stretchedFrame 25 = .ok (.iload_n 1, 1) := by decide +kernel
theorem dX0_stretchedFrame_26 : decode cX0_stretchedFrame 26 = .ok (.isub, 1) := by decide +kernel
theorem dX0_stretchedFrame_27 : decode cX0_stretchedFrame 27 = .ok (.iload_n 3, 1) := by decide +kernel
theorem dX0_stretchedFrame_28 : decode cX0_stretchedFrame 28 = .ok (.imul, 1) := by decide +kernel
theorem dX0_stretchedFrame_29 : decode cX0_stretchedFrame 29 = .ok (.bipush 100, 2) := by decide +kernel
theorem dX0_stretchedFrame_31 : decode cX0_stretchedFrame 31 = .ok (.idiv, 1) := by decide +kernel
theorem dX0_stretchedFrame_32 : decode cX0_stretchedFrame 32 = .ok (.iadd, 1) := by decide +kernel
theorem dX0_stretchedFrame_33 : decode cX0_stretchedFrame 33 = .ok (.iload_n 2, 1) := by decide +kernel
theorem dX0_stretchedFrame_34 : decode cX0_stretchedFrame 34 = .ok (.iload_n 1, 1) := by decide +kernel
theorem dX0_stretchedFrame_35 : decode cX0_stretchedFrame 35 = .ok (.isub, 1) := by decide +kernel
theorem dX0_stretchedFrame_36 : decode cX0_stretchedFrame 36 = .ok (.isub, 1) := by decide +kernel
theorem dX0_stretchedFrame_37 : decode cX0_stretchedFrame 37 = .ok (.ireturn, 1) := by decide +kernel
set_option maxRecDepth 20000 in
theorem ggX0_tangentOf_X0_cell : GoodIn wsX0_tangentOf wsX0_cell := goodIn_r _ [6, 1, 7, 11, 12] (by decide +kernel) (by decide +kernel)
set_option maxRecDepth 20000 in
theorem gX0_tangentOf_X0_cell : GoodIn wsX0_tangentOf (wsV RX0 19 RX0 yX0_cell wsX0_cell) := goodIn_app (goodIn_of _ (by decide +kernel)) ggX0_tangentOf_X0_cell
set_option maxRecDepth 20000 in
theorem ggX0_tangentOf_X0_isTurn : GoodIn wsX0_tangentOf wsX0_isTurn := goodIn_r _ [10] (by decide +kernel) (by decide +kernel)
set_option maxRecDepth 20000 in
theorem gX0_tangentOf_X0_isTurn : GoodIn wsX0_tangentOf (va_wsS RX0 58 yX0_isTurn wsX0_isTurn) := goodIn_app (goodIn_of _ (by decide +kernel)) ggX0_tangentOf_X0_isTurn
theorem dX0_tangentOf_0 : decode cX0_tangentOf 0 = .ok (.aload_n 0, 1) := by decide +kernel
theorem dX0_tangentOf_1 : decode cX0_tangentOf 1 = .ok (.iload_n 1, 1) := by decide +kernel
theorem dX0_tangentOf_2 : decode cX0_tangentOf 2 = .ok (.iconst 3, 1) := by decide +kernel
theorem dX0_tangentOf_3 : decode cX0_tangentOf 3 = .ok (.invokevirtual 19, 3) := by decide +kernel
theorem dX0_tangentOf_6 : decode cX0_tangentOf 6 = .ok (.istore_n 2, 1) := by decide +kernel
theorem dX0_tangentOf_7 : decode cX0_tangentOf 7 = .ok (.iload_n 2, 1) := by decide +kernel
theorem dX0_tangentOf_8 : decode cX0_tangentOf 8 = .ok (.ifCond .ne 10, 3) := by decide +kernel
theorem dX0_tangentOf_11 : decode cX0_tangentOf 11 = .ok (.aload_n 0, 1) := by decide +kernel
theorem dX0_tangentOf_12 : decode cX0_tangentOf 12 = .ok (.iload_n 1, 1) := by decide +kernel
theorem dX0_tangentOf_13 : decode cX0_tangentOf 13 = .ok (.iconst 4, 1) := by decide +kernel
theorem dX0_tangentOf_14 : decode cX0_tangentOf 14 = .ok (.invokevirtual 19, 3) := by decide +kernel
theorem dX0_tangentOf_17 : decode cX0_tangentOf 17 = .ok (.ireturn, 1) := by decide +kernel
theorem dX0_tangentOf_18 : decode cX0_tangentOf 18 = .ok (.aload_n 0, 1) := by decide +kernel
theorem dX0_tangentOf_19 : decode cX0_tangentOf 19 = .ok (.iload_n 1, 1) := by decide +kernel
theorem dX0_tangentOf_20 : decode cX0_tangentOf 20 = .ok (.iconst 1, 1) := by decide +kernel
theorem dX0_tangentOf_21 : decode cX0_tangentOf 21 = .ok (.iadd, 1) := by decide +kernel
theorem dX0_tangentOf_22 : decode cX0_tangentOf 22 = .ok (.iconst 0, 1) := by decide +kernel
theorem dX0_tangentOf_23 : decode cX0_tangentOf 23 = .ok (.invokevirtual 19, 3) := by decide +kernel
theorem dX0_tangentOf_26 : decode cX0_tangentOf 26 = .ok (.aload_n 0, 1) := by decide +kernel
theorem dX0_tangentOf_27 : decode cX0_tangentOf 27 = .ok (.iload_n 1, 1) := by decide +kernel
theorem dX0_tangentOf_28 : decode cX0_tangentOf 28 = .ok (.iconst 1, 1) := by decide +kernel
theorem dX0_tangentOf_29 : decode cX0_tangentOf 29 = .ok (.isub, 1) := by decide +kernel
theorem dX0_tangentOf_30 : decode cX0_tangentOf 30 = .ok (.iconst 0, 1) := by decide +kernel
theorem dX0_tangentOf_31 : decode cX0_tangentOf 31 = .ok (.invokevirtual 19, 3) := by decide +kernel
theorem dX0_tangentOf_34 : decode cX0_tangentOf 34 = .ok (.isub, 1) := by decide +kernel
theorem dX0_tangentOf_35 : decode cX0_tangentOf 35 = .ok (.istore_n 3, 1) := by decide +kernel
theorem dX0_tangentOf_36 : decode cX0_tangentOf 36 = .ok (.iload_n 1, 1) := by decide +kernel
theorem dX0_tangentOf_37 : decode cX0_tangentOf 37 = .ok (.ifCond .le 17, 3) := by decide +kernel
theorem dX0_tangentOf_40 : decode cX0_tangentOf 40 = .ok (.iload_n 1, 1) := by decide +kernel
theorem dX0_tangentOf_41 : decode cX0_tangentOf 41 = .ok (.aload_n 0, 1) := by decide +kernel
theorem dX0_tangentOf_42 : decode cX0_tangentOf 42 = .ok (.getfield 9, 3) := by decide +kernel
theorem dX0_tangentOf_45 : decode cX0_tangentOf 45 = .ok (.iconst 1, 1) := by decide +kernel
theorem dX0_tangentOf_46 : decode cX0_tangentOf 46 = .ok (.isub, 1) := by decide +kernel
theorem dX0_tangentOf_47 : decode cX0_tangentOf 47 = .ok (.if_icmp .ge 7, 3) := by decide +kernel
theorem dX0_tangentOf_50 : decode cX0_tangentOf 50 = .ok (.iload_n 3, 1) := by decide +kernel
theorem dX0_tangentOf_51 : decode cX0_tangentOf 51 = .ok (.ifCond .gt 5, 3) := by decide +kernel
theorem dX0_tangentOf_54 : decode cX0_tangentOf 54 = .ok (.iconst 0, 1) := by decide +kernel
theorem dX0_tangentOf_55 : decode cX0_tangentOf 55 = .ok (.ireturn, 1) := by decide +kernel
theorem dX0_tangentOf_56 : decode cX0_tangentOf 56 = .ok (.aload_n 0, 1) := by decide +kernel
theorem dX0_tangentOf_57 : decode cX0_tangentOf 57 = .ok (.iload_n 1, 1) := by decide +kernel
theorem dX0_tangentOf_58 : decode cX0_tangentOf 58 = .ok (.iconst 1, 1) := by decide +kernel
theorem dX0_tangentOf_59 : decode cX0_tangentOf 59 = .ok (.isub, 1) := by decide +kernel
theorem dX0_tangentOf_60 : decode cX0_tangentOf 60 = .ok (.iconst 1, 1) := by decide +kernel
theorem dX0_tangentOf_61 : decode cX0_tangentOf 61 = .ok (.invokevirtual 19, 3) := by decide +kernel
theorem dX0_tangentOf_64 : decode cX0_tangentOf 64 = .ok (.istore 4, 2) := by decide +kernel
theorem dX0_tangentOf_66 : decode cX0_tangentOf 66 = .ok (.aload_n 0, 1) := by decide +kernel
theorem dX0_tangentOf_67 : decode cX0_tangentOf 67 = .ok (.iload_n 1, 1) := by decide +kernel
theorem dX0_tangentOf_68 : decode cX0_tangentOf 68 = .ok (.iconst 1, 1) := by decide +kernel
theorem dX0_tangentOf_69 : decode cX0_tangentOf 69 = .ok (.iadd, 1) := by decide +kernel
theorem dX0_tangentOf_70 : decode cX0_tangentOf 70 = .ok (.iconst 1, 1) := by decide +kernel
theorem dX0_tangentOf_71 : decode cX0_tangentOf 71 = .ok (.invokevirtual 19, 3) := by decide +kernel
theorem dX0_tangentOf_74 : decode cX0_tangentOf 74 = .ok (.istore 5, 2) := by decide +kernel
theorem dX0_tangentOf_76 : decode cX0_tangentOf 76 = .ok (.iload_n 2, 1) := by decide +kernel
theorem dX0_tangentOf_77 : decode cX0_tangentOf 77 = .ok (.iconst 2, 1) := by decide +kernel
theorem dX0_tangentOf_78 : decode cX0_tangentOf 78 = .ok (.if_icmp .ne 21, 3) := by decide +kernel
theorem dX0_tangentOf_81 : decode cX0_tangentOf 81 = .ok (.iload 4, 2) := by decide +kernel
theorem dX0_tangentOf_83 : decode cX0_tangentOf 83 = .ok (.aload_n 0, 1) := by decide +kernel
theorem dX0_tangentOf_84 : decode cX0_tangentOf 84 = .ok (.iload_n 1, 1) := by decide +kernel
theorem dX0_tangentOf_85 : decode cX0_tangentOf 85 = .ok (.iconst 1, 1) := by decide +kernel
theorem dX0_tangentOf_86 : decode cX0_tangentOf 86 = .ok (.invokevirtual 19, 3) := by decide +kernel
theorem dX0_tangentOf_89 : decode cX0_tangentOf 89 = .ok (.iload 5, 2) := by decide +kernel
theorem dX0_tangentOf_91 : decode cX0_tangentOf 91 = .ok (.invokestatic 58, 3) := by decide +kernel
theorem dX0_tangentOf_94 : decode cX0_tangentOf 94 = .ok (.ifCond .eq 5, 3) := by decide +kernel
theorem dX0_tangentOf_97 : decode cX0_tangentOf 97 = .ok (.iconst 0, 1) := by decide +kernel
theorem dX0_tangentOf_98 : decode cX0_tangentOf 98 = .ok (.ireturn, 1) := by decide +kernel
theorem dX0_tangentOf_99 : decode cX0_tangentOf 99 = .ok (.sipush 1000, 3) := by decide +kernel
theorem dX0_tangentOf_102 : decode cX0_tangentOf 102 = .ok (.iload 5, 2) := by decide +kernel
theorem dX0_tangentOf_104 : decode cX0_tangentOf 104 = .ok (.iload 4, 2) := by decide +kernel
theorem dX0_tangentOf_106 : decode cX0_tangentOf 106 = .ok (.isub, 1) := by decide +kernel
theorem dX0_tangentOf_107 : decode cX0_tangentOf 107 = .ok (.imul, 1) := by decide +kernel
theorem dX0_tangentOf_108 : decode cX0_tangentOf 108 = .ok (.iload_n 3, 1) := by decide +kernel
theorem dX0_tangentOf_109 : decode cX0_tangentOf 109 = .ok (.idiv, 1) := by decide +kernel
theorem dX0_tangentOf_110 : decode cX0_tangentOf 110 = .ok (.ireturn, 1) := by decide +kernel
theorem dX0_isTurn_0 : decode cX0_isTurn 0 = .ok (.iload_n 0, 1) := by decide +kernel
theorem dX0_isTurn_1 : decode cX0_isTurn 1 = .ok (.iload_n 1, 1) := by decide +kernel
theorem dX0_isTurn_2 : decode cX0_isTurn 2 = .ok (.if_icmp .gt 8, 3) := by decide +kernel
theorem dX0_isTurn_5 : decode cX0_isTurn 5 = .ok (.iload_n 2, 1) := by decide +kernel
theorem dX0_isTurn_6 : decode cX0_isTurn 6 = .ok (.iload_n 1, 1) := by decide +kernel
theorem dX0_isTurn_7 : decode cX0_isTurn 7 = .ok (.if_icmp .le 13, 3) := by decide +kernel
theorem dX0_isTurn_10 : decode cX0_isTurn 10 = .ok (.iload_n 0, 1) := by decide +kernel
theorem dX0_isTurn_11 : decode cX0_isTurn 11 = .ok (.iload_n 1, 1) := by decide +kernel
theorem dX0_isTurn_12 : decode cX0_isTurn 12 = .ok (.if_icmp .lt 12, 3) := by decide +kernel
theorem dX0_isTurn_15 : decode cX0_isTurn 15 = .ok (.iload_n 2, 1) := by decide +kernel
theorem dX0_isTurn_16 : decode cX0_isTurn 16 = .ok (.iload_n 1, 1) := by decide +kernel
theorem dX0_isTurn_17 : decode cX0_isTurn 17 = .ok (.if_icmp .lt 7, 3) := by decide +kernel
theorem dX0_isTurn_20 : decode cX0_isTurn 20 = .ok (.iconst 1, 1) := by decide +kernel
theorem dX0_isTurn_21 : decode cX0_isTurn 21 = .ok (.goto 4, 3) := by decide +kernel
theorem dX0_isTurn_24 : decode cX0_isTurn 24 = .ok (.iconst 0, 1) := by decide +kernel
theorem dX0_isTurn_25 : decode cX0_isTurn 25 = .ok (.ireturn, 1) := by decide +kernel
set_option maxRecDepth 20000 in
theorem ggX0_valueAt_X0_countUpTo : GoodIn wsX0_valueAt wsX0_countUpTo := goodIn_r _ [5, 6, 7, 8, 9, 4, 10, 11, 36, 37] (by decide +kernel) (by decide +kernel)
set_option maxRecDepth 20000 in
theorem gX0_valueAt_X0_countUpTo : GoodIn wsX0_valueAt (wsV RX0 27 RX0 yX0_countUpTo wsX0_countUpTo) := goodIn_app (goodIn_of _ (by decide +kernel)) ggX0_valueAt_X0_countUpTo
set_option maxRecDepth 20000 in
theorem ggX0_valueAt_X0_valueBehind : GoodIn wsX0_valueAt wsX0_valueBehind := goodIn_r _ [15, 16, 17, 18, 19, 6, 20, 21, 22, 23, 24, 7, 8, 9, 4, 10, 11, 25, 26, 27, 28, 29, 30, 31, 32, 33, 34, 35, 36, 37] (by decide +kernel) (by decide +kernel)
set_option maxRecDepth 20000 in
theorem gX0_valueAt_X0_valueBehind : GoodIn wsX0_valueAt (wsV RX0 62 RX0 yX0_valueBehind wsX0_valueBehind) := goodIn_app (goodIn_of _ (by decide +kernel)) ggX0_valueAt_X0_valueBehind
theorem dX0_valueAt_0 : decode cX0_valueAt 0 = .ok (.aload_n 0, 1) := by decide +kernel
theorem dX0_valueAt_1 : decode cX0_valueAt 1 = .ok (.aload_n 0, 1) := by decide +kernel
theorem dX0_valueAt_2 : decode cX0_valueAt 2 = .ok (.iload_n 1, 1) := by decide +kernel
theorem dX0_valueAt_3 : decode cX0_valueAt 3 = .ok (.invokevirtual 27, 3) := by decide +kernel
theorem dX0_valueAt_6 : decode cX0_valueAt 6 = .ok (.iconst 1, 1) := by decide +kernel
theorem dX0_valueAt_7 : decode cX0_valueAt 7 = .ok (.isub, 1) := by decide +kernel
theorem dX0_valueAt_8 : decode cX0_valueAt 8 = .ok (.iload_n 1, 1) := by decide +kernel
theorem dX0_valueAt_9 : decode cX0_valueAt 9 = .ok (.invokevirtual 62, 3) := by decide +kernel
theorem dX0_valueAt_12 : decode cX0_valueAt 12 = .ok (.ireturn, 1) := by decide +kernel
set_option maxRecDepth 20000 in
theorem ggX0_valueBehind_X0_cell : GoodIn wsX0_valueBehind wsX0_cell := goodIn_r _ [15, 5, 16, 28, 29] (by decide +kernel) (by decide +kernel)
set_option maxRecDepth 20000 in
theorem gX0_valueBehind_X0_cell : GoodIn wsX0_valueBehind (wsV RX0 19 RX0 yX0_cell wsX0_cell) := goodIn_app (goodIn_of _ (by decide +kernel)) ggX0_valueBehind_X0_cell
set_option maxRecDepth 20000 in
theorem ggX0_valueBehind_X0_tangentOf : GoodIn wsX0_valueBehind wsX0_tangentOf := goodIn_r _ [20, 5, 11, 12, 13, 14, 15, 16, 21, 22, 23, 28, 29] (by decide +kernel) (by decide +kernel)
set_option maxRecDepth 20000 in
theorem gX0_valueBehind_X0_tangentOf : GoodIn wsX0_valueBehind (wsV RX0 78 RX0 yX0_tangentOf wsX0_tangentOf) := goodIn_app (goodIn_of _ (by decide +kernel)) ggX0_valueBehind_X0_tangentOf
set_option maxRecDepth 20000 in
theorem ggX0_valueBehind_X0_riseByTangents : GoodIn wsX0_valueBehind wsX0_riseByTangents := goodIn_r _ [26, 8, 9, 27, 7, 6, 10] (by decide +kernel) (by decide +kernel)
set_option maxRecDepth 20000 in
theorem gX0_valueBehind_X0_riseByTangents : GoodIn wsX0_valueBehind (va_wsS RX0 81 yX0_riseByTangents wsX0_riseByTangents) := goodIn_app (goodIn_of _ (by decide +kernel)) ggX0_valueBehind_X0_riseByTangents
theorem dX0_valueBehind_0 : decode cX0_valueBehind 0 = .ok (.aload_n 0, 1) := by decide +kernel
theorem dX0_valueBehind_1 : decode cX0_valueBehind 1 = .ok (.iload_n 1, 1) := by decide +kernel
theorem dX0_valueBehind_2 : decode cX0_valueBehind 2 = .ok (.iconst 0, 1) := by decide +kernel
theorem dX0_valueBehind_3 : decode cX0_valueBehind 3 = .ok (.invokestatic 65, 3) := by decide +kernel
theorem dX0_valueBehind_6 : decode cX0_valueBehind 6 = .ok (.iconst 1, 1) := by decide +kernel
theorem dX0_valueBehind_7 : decode cX0_valueBehind 7 = .ok (.invokevirtual 19, 3) := by decide +kernel
theorem dX0_valueBehind_10 : decode cX0_valueBehind 10 = .ok (.istore_n 3, 1) := by decide +kernel
theorem dX0_valueBehind_11 : decode cX0_valueBehind 11 = .ok (.aload_n 0, 1) := by decide +kernel
theorem dX0_valueBehind_12 : decode cX0_valueBehind 12 = .ok (.iload_n 1, 1) := by decide +kernel
theorem dX0_valueBehind_13 : decode cX0_valueBehind 13 = .ok (.iconst 1, 1) := by decide +kernel
theorem dX0_valueBehind_14 : decode cX0_valueBehind 14 = .ok (.iadd, 1) := by decide +kernel
theorem dX0_valueBehind_15 : decode cX0_valueBehind 15 = .ok (.iconst 0, 1) := by decide +kernel
theorem dX0_valueBehind_16 : decode cX0_valueBehind 16 = .ok (.invokevirtual 19, 3) := by decide +kernel
theorem dX0_valueBehind_19 : decode cX0_valueBehind 19 = .ok (.aload_n 0, 1) := by decide +kernel
theorem dX0_valueBehind_20 : decode cX0_valueBehind 20 = .ok (.iload_n 1, 1) := by decide +kernel
theorem dX0_valueBehind_21 : decode cX0_valueBehind 21 = .ok (.iconst 0, 1) := by decide +kernel
theorem dX0_valueBehind_22 : decode cX0_valueBehind 22 = .ok (.invokevirtual 19, 3) := by decide +kernel
theorem dX0_valueBehind_25 : decode cX0_valueBehind 25 = .ok (.isub, 1) := by decide +kernel
theorem dX0_valueBehind_26 : decode cX0_valueBehind 26 = .ok (.i2l, 1) := by decide +kernel
theorem dX0_valueBehind_27 : decode cX0_valueBehind 27 = .ok (.lstore 4, 2) := by decide +kernel
theorem dX0_valueBehind_29 : decode cX0_valueBehind 29 = .ok (.iload_n 1, 1) := by decide +kernel
theorem dX0_valueBehind_30 : decode cX0_valueBehind 30 = .ok (.ifCond .lt 20, 3) := by decide +kernel
theorem dX0_valueBehind_33 : decode cX0_valueBehind 33 = .ok (.iload_n 1, 1) := by decide +kernel
theorem dX0_valueBehind_34 : decode cX0_valueBehind 34 = .ok (.aload_n 0, 1) := by decide +kernel
theorem dX0_valueBehind_35 : decode cX0_valueBehind 35 = .ok (.getfield 9, 3) := by decide +kernel
theorem dX0_valueBehind_38 : decode cX0_valueBehind 38 = .ok (.iconst 1, 1) := by decide +kernel
theorem dX0_valueBehind_39 : decode cX0_valueBehind 39 = .ok (.isub, 1) := by decide +kernel
theorem dX0_valueBehind_40 : decode cX0_valueBehind 40 = .ok (.if_icmp .ge 10, 3) := by decide +kernel
theorem dX0_valueBehind_43 : decode cX0_valueBehind 43 = .ok (.lload 4, 2) := by decide +kernel
theorem dX0_valueBehind_45 : decode cX0_valueBehind 45 = .ok (.lconst 0, 1) := by decide +kernel
theorem dX0_valueBehind_46 : decode cX0_valueBehind 46 = .ok (.lcmp, 1) := by decide +kernel
theorem dX0_valueBehind_47 : decode cX0_valueBehind 47 = .ok (.ifCond .gt 5, 3) := by decide +kernel
theorem dX0_valueBehind_50 : decode cX0_valueBehind 50 = .ok (.iload_n 3, 1) := by decide +kernel
theorem dX0_valueBehind_51 : decode cX0_valueBehind 51 = .ok (.ireturn, 1) := by decide +kernel
theorem dX0_valueBehind_52 : decode cX0_valueBehind 52 = .ok (.sipush 1000, 3) := by decide +kernel
theorem dX0_valueBehind_55 : decode cX0_valueBehind 55 = .ok (.iload_n 2, 1) := by decide +kernel
theorem dX0_valueBehind_56 : decode cX0_valueBehind 56 = .ok (.aload_n 0, 1) := by decide +kernel
theorem dX0_valueBehind_57 : decode cX0_valueBehind 57 = .ok (.iload_n 1, 1) := by decide +kernel
theorem dX0_valueBehind_58 : decode cX0_valueBehind 58 = .ok (.iconst 0, 1) := by decide +kernel
theorem dX0_valueBehind_59 : decode cX0_valueBehind 59 = .ok (.invokevirtual 19, 3) := by decide +kernel
theorem dX0_valueBehind_62 : decode cX0_valueBehind 62 = .ok (.isub, 1) := by decide +kernel
theorem dX0_valueBehind_63 : decode cX0_valueBehind 63 = .ok (.imul, 1) := by decide +kernel
theorem dX0_valueBehind_64 : decode cX0_valueBehind 64 = .ok (.i2l, 1) := by decide +kernel
theorem dX0_valueBehind_65 : decode cX0_valueBehind 65 = .ok (.lload 4, 2) := by decide +kernel
theorem dX0_valueBehind_67 : decode cX0_valueBehind 67 = .ok (.ldiv, 1) := by decide +kernel
theorem dX0_valueBehind_68 : decode cX0_valueBehind 68 = .ok (.lstore 6, 2) := by decide +kernel
theorem dX0_valueBehind_70 : decode cX0_valueBehind 70 = .ok (.aload_n 0, 1) := by decide +kernel
theorem dX0_valueBehind_71 : decode cX0_valueBehind 71 = .ok (.iload_n 1, 1) := by decide +kernel
theorem dX0_valueBehind_72 : decode cX0_valueBehind 72 = .ok (.iconst 1, 1) := by decide +kernel
theorem dX0_valueBehind_73 : decode cX0_valueBehind 73 = .ok (.iadd, 1) := by decide +kernel
theorem dX0_valueBehind_74 : decode cX0_valueBehind 74 = .ok (.iconst 1, 1) := by decide +kernel
theorem dX0_valueBehind_75 : decode cX0_valueBehind 75 = .ok (.invokevirtual 19, 3) := by decide +kernel
theorem dX0_valueBehind_78 : decode cX0_valueBehind 78 = .ok (.iload_n 3, 1) := by decide +kernel
theorem dX0_valueBehind_79 : decode cX0_valueBehind 79 = .ok (.isub, 1) := by decide +kernel
theorem dX0_valueBehind_80 : decode cX0_valueBehind 80 = .ok (.i2l, 1) := by decide +kernel
theorem dX0_valueBehind_81 : decode cX0_valueBehind 81 = .ok (.lstore 8, 2) := by decide +kernel
theorem dX0_valueBehind_83 : decode cX0_valueBehind 83 = .ok (.aload_n 0, 1) := by decide +kernel
theorem dX0_valueBehind_84 : decode cX0_valueBehind 84 = .ok (.iload_n 1, 1) := by decide +kernel
theorem dX0_valueBehind_85 : decode cX0_valueBehind 85 = .ok (.iconst 2, 1) := by decide +kernel
theorem dX0_valueBehind_86 : decode cX0_valueBehind 86 = .ok (.invokevirtual 19, 3) := by decide +kernel
theorem dX0_valueBehind_89 : decode cX0_valueBehind 89 = .ok (.tableswitch 166 1 5 #[35, 48, 64, 92, 119], 35) := by decide +kernel
theorem dX0_valueBehind_124 : decode cX0_valueBehind 124 = .ok (.iload_n 3, 1) := by decide +kernel
theorem dX0_valueBehind_125 : decode cX0_valueBehind 125 = .ok (.lload 8, 2) := by decide +kernel
theorem dX0_valueBehind_127 : decode cX0_valueBehind 127 = .ok (.lload 6, 2) := by decide +kernel
theorem dX0_valueBehind_129 : decode cX0_valueBehind 129 = .ok (.lmul, 1) := by decide +kernel
theorem dX0_valueBehind_130 : decode cX0_valueBehind 130 = .ok (.ldc2_w 68, 3) := by decide +kernel
theorem dX0_valueBehind_133 : decode cX0_valueBehind 133 = .ok (.ldiv, 1) := by decide +kernel
theorem dX0_valueBehind_134 : decode cX0_valueBehind 134 = .ok (.l2i, 1) := by decide +kernel
theorem dX0_valueBehind_135 : decode cX0_valueBehind 135 = .ok (.iadd, 1) := by decide +kernel
theorem dX0_valueBehind_136 : decode cX0_valueBehind 136 = .ok (.ireturn, 1) := by decide +kernel
theorem dX0_valueBehind_137 : decode cX0_valueBehind 137 = .ok (.iload_n 3, 1) := by decide +kernel
theorem dX0_valueBehind_138 : decode cX0_valueBehind 138 = .ok (.lload 8, 2) := by decide +kernel
theorem dX0_valueBehind_140 : decode cX0_valueBehind 140 = .ok (.lload 6, 2) := by decide +kernel
theorem dX0_valueBehind_142 : decode cX0_valueBehind 142 = .ok (.lmul, 1) := by decide +kernel
theorem dX0_valueBehind_143 : decode cX0_valueBehind 143 = .ok (.lload 6, 2) := by decide +kernel
theorem dX0_valueBehind_145 : decode cX0_valueBehind 145 = .ok (.lmul, 1) := by decide +kernel
theorem dX0_valueBehind_146 : decode cX0_valueBehind 146 = .ok (.ldc2_w 70, 3) := by decide +kernel
theorem dX0_valueBehind_149 : decode cX0_valueBehind 149 = .ok (.ldiv, 1) := by decide +kernel
theorem dX0_valueBehind_150 : decode cX0_valueBehind 150 = .ok (.l2i, 1) := by decide +kernel
theorem dX0_valueBehind_151 : decode cX0_valueBehind 151 = .ok (.iadd, 1) := by decide +kernel
theorem dX0_valueBehind_152 : decode cX0_valueBehind 152 = .ok (.ireturn, 1) := by decide +kernel
theorem dX0_valueBehind_153 : decode cX0_valueBehind 153 = .ok (.iload_n 3, 1) := by decide +kernel
theorem dX0_valueBehind_154 : decode cX0_valueBehind 154 = .ok (.lload 8, 2) := by decide +kernel
theorem dX0_valueBehind_156 : decode cX0_valueBehind 156 = .ok (.ldc2_w 70, 3) := by decide +kernel
theorem dX0_valueBehind_159 : decode cX0_valueBehind 159 = .ok (.ldc2_w 68, 3) := by decide +kernel
theorem dX0_valueBehind_162 : decode cX0_valueBehind 162 = .ok (.lload 6, 2) := by decide +kernel
theorem dX0_valueBehind_164 : decode cX0_valueBehind 164 = .ok (.lsub, 1) := by decide +kernel
theorem dX0_valueBehind_165 : decode cX0_valueBehind 165 = .ok (.ldc2_w 68, 3) := by decide +kernel
theorem dX0_valueBehind_168 : decode cX0_valueBehind 168 = .ok (.lload 6, 2) := by decide +kernel
theorem dX0_valueBehind_170 : decode cX0_valueBehind 170 = .ok (.lsub, 1) := by decide +kernel
theorem dX0_valueBehind_171 : decode cX0_valueBehind 171 = .ok (.lmul, 1) := by decide +kernel
theorem dX0_valueBehind_172 : decode cX0_valueBehind 172 = .ok (.lsub, 1) := by decide +kernel
theorem dX0_valueBehind_173 : decode cX0_valueBehind 173 = .ok (.lmul, 1) := by decide +kernel
theorem dX0_valueBehind_174 : decode cX0_valueBehind 174 = .ok (.ldc2_w 70, 3) := by decide +kernel
theorem dX0_valueBehind_177 : decode cX0_valueBehind 177 = .ok (.ldiv, 1) := by decide +kernel
theorem dX0_valueBehind_178 : decode cX0_valueBehind 178 = .ok (.l2i, 1) := by decide +kernel
theorem dX0_valueBehind_179 : decode cX0_valueBehind 179 = .ok (.iadd, 1) := by decide +kernel
theorem dX0_valueBehind_180 : decode cX0_valueBehind 180 = .ok (.ireturn, 1) := by decide +kernel
theorem dX0_valueBehind_181 : decode cX0_valueBehind 181 = .ok (.iload_n 3, 1) := by decide +kernel
theorem dX0_valueBehind_182 : decode cX0_valueBehind 182 = .ok (.lload 8, 2) := by decide +kernel
theorem dX0_valueBehind_184 : decode cX0_valueBehind 184 = .ok (.lload 6, 2) := by decide +kernel
theorem dX0_valueBehind_186 : decode cX0_valueBehind 186 = .ok (.lmul, 1) := by decide +kernel
theorem dX0_valueBehind_187 : decode cX0_valueBehind 187 = .ok (.lload 6, 2) := by decide +kernel
theorem dX0_valueBehind_189 : decode cX0_valueBehind 189 = .ok (.lmul, 1) := by decide +kernel
theorem dX0_valueBehind_190 : decode cX0_valueBehind 190 = .ok (.ldc2_w 72, 3) := by decide +kernel
theorem dX0_valueBehind_193 : decode cX0_valueBehind 193 = .ok (.ldc2_w 74, 3) := by decide +kernel
theorem dX0_valueBehind_196 : decode cX0_valueBehind 196 = .ok (.lload 6, 2) := by decide +kernel
theorem dX0_valueBehind_198 : decode cX0_valueBehind 198 = .ok (.lmul, 1) := by decide +kernel
theorem dX0_valueBehind_199 : decode cX0_valueBehind 199 = .ok (.lsub, 1) := by decide +kernel
theorem dX0_valueBehind_200 : decode cX0_valueBehind 200 = .ok (.lmul, 1) := by decide +kernel
theorem dX0_valueBehind_201 : decode cX0_valueBehind 201 = .ok (.ldc2_w 76, 3) := by decide +kernel
theorem dX0_valueBehind_204 : decode cX0_valueBehind 204 = .ok (.ldiv, 1) := by decide +kernel
theorem dX0_valueBehind_205 : decode cX0_valueBehind 205 = .ok (.l2i, 1) := by decide +kernel
theorem dX0_valueBehind_206 : decode cX0_valueBehind 206 = .ok (.iadd, 1) := by decide +kernel
theorem dX0_valueBehind_207 : decode cX0_valueBehind 207 = .ok (.ireturn, 1) := by decide +kernel
theorem dX0_valueBehind_208 : decode cX0_valueBehind 208 = .ok (.lload 4, 2) := by decide +kernel
theorem dX0_valueBehind_210 : decode cX0_valueBehind 210 = .ok (.aload_n 0, 1) := by decide +kernel
theorem dX0_valueBehind_211 : decode cX0_valueBehind 211 = .ok (.iload_n 1, 1) := by decide +kernel
theorem dX0_valueBehind_212 : decode cX0_valueBehind 212 = .ok (.invokevirtual 78, 3) := by decide +kernel
theorem dX0_valueBehind_215 : decode cX0_valueBehind 215 = .ok (.i2l, 1) := by decide +kernel
theorem dX0_valueBehind_216 : decode cX0_valueBehind 216 = .ok (.lmul, 1) := by decide +kernel
theorem dX0_valueBehind_217 : decode cX0_valueBehind 217 = .ok (.ldc2_w 68, 3) := by decide +kernel
theorem dX0_valueBehind_220 : decode cX0_valueBehind 220 = .ok (.ldiv, 1) := by decide +kernel
theorem dX0_valueBehind_221 : decode cX0_valueBehind 221 = .ok (.lstore 10, 2) := by decide +kernel
theorem dX0_valueBehind_223 : decode cX0_valueBehind 223 = .ok (.lload 4, 2) := by decide +kernel
theorem dX0_valueBehind_225 : decode cX0_valueBehind 225 = .ok (.aload_n 0, 1) := by decide +kernel
theorem dX0_valueBehind_226 : decode cX0_valueBehind 226 = .ok (.iload_n 1, 1) := by decide +kernel
theorem dX0_valueBehind_227 : decode cX0_valueBehind 227 = .ok (.iconst 1, 1) := by decide +kernel
theorem dX0_valueBehind_228 : decode cX0_valueBehind 228 = .ok (.iadd, 1) := by decide +kernel
theorem dX0_valueBehind_229 : decode cX0_valueBehind 229 = .ok (.invokevirtual 78, 3) := by decide +kernel
theorem dX0_valueBehind_232 : decode cX0_valueBehind 232 = .ok (.i2l, 1) := by decide +kernel
theorem dX0_valueBehind_233 : decode cX0_valueBehind 233 = .ok (.lmul, 1) := by decide +kernel
theorem dX0_valueBehind_234 : decode cX0_valueBehind 234 = .ok (.ldc2_w 68, 3) := by decide +kernel
theorem dX0_valueBehind_237 : decode cX0_valueBehind 237 = .ok (.ldiv, 1) := by decide +kernel
theorem dX0_valueBehind_238 : decode cX0_valueBehind 238 = .ok (.lstore 12, 2) := by decide +kernel
theorem dX0_valueBehind_240 : decode cX0_valueBehind 240 = .ok (.iload_n 3, 1) := by decide +kernel
theorem dX0_valueBehind_241 : decode cX0_valueBehind 241 = .ok (.lload 8, 2) := by decide +kernel
theorem dX0_valueBehind_243 : decode cX0_valueBehind 243 = .ok (.lload 6, 2) := by decide +kernel
theorem dX0_valueBehind_245 : decode cX0_valueBehind 245 = .ok (.lload 10, 2) := by decide +kernel
theorem dX0_valueBehind_247 : decode cX0_valueBehind 247 = .ok (.lload 12, 2) := by decide +kernel
theorem dX0_valueBehind_249 : decode cX0_valueBehind 249 = .ok (.invokestatic 81, 3) := by decide +kernel
theorem dX0_valueBehind_252 : decode cX0_valueBehind 252 = .ok (.l2i, 1) := by decide +kernel
theorem dX0_valueBehind_253 : decode cX0_valueBehind 253 = .ok (.iadd, 1) := by decide +kernel
theorem dX0_valueBehind_254 : decode cX0_valueBehind 254 = .ok (.ireturn, 1) := by decide +kernel
theorem dX0_valueBehind_255 : decode cX0_valueBehind 255 = .ok (.iload_n 3, 1) := by decide +kernel
theorem dX0_valueBehind_256 : decode cX0_valueBehind 256 = .ok (.ireturn, 1) := by decide +kernel
theorem dX0_riseByTangents_0 : decode cX0_riseByTangents 0 = .ok (.lload_n 2, 1) := by decide +kernel
theorem dX0_riseByTangents_1 : decode cX0_riseByTangents 1 = .ok (.lload_n 2, 1) := by decide +kernel
theorem dX0_riseByTangents_2 : decode cX0_riseByTangents 2 = .ok (.lmul, 1) := by decide +kernel
theorem dX0_riseByTangents_3 : decode cX0_riseByTangents 3 = .ok (.lstore 8, 2) := by decide +kernel
theorem dX0_riseByTangents_5 : decode cX0_riseByTangents 5 = .ok (.lload 8, 2) := by decide +kernel
theorem dX0_riseByTangents_7 : decode cX0_riseByTangents 7 = .ok (.lload_n 2, 1) := by decide +kernel
theorem dX0_riseByTangents_8 : decode cX0_riseByTangents 8 = .ok (.lmul, 1) := by decide +kernel
theorem dX0_riseByTangents_9 : decode cX0_riseByTangents 9 = .ok (.lstore 10, 2) := by decide +kernel
theorem dX0_riseByTangents_11 : decode cX0_riseByTangents 11 = .ok (.lload_n 0, 1) := by decide +kernel
theorem dX0_riseByTangents_12 : decode cX0_riseByTangents 12 = .ok (.ldc2_w 72, 3) := by decide +kernel
theorem dX0_riseByTangents_15 : decode cX0_riseByTangents 15 = .ok (.lload 8, 2) := by decide +kernel
theorem dX0_riseByTangents_17 : decode cX0_riseByTangents 17 = .ok (.lmul, 1) := by decide +kernel
theorem dX0_riseByTangents_18 : decode cX0_riseByTangents 18 = .ok (.ldc2_w 74, 3) := by decide +kernel
theorem dX0_riseByTangents_21 : decode cX0_riseByTangents 21 = .ok (.lload 10, 2) := by decide +kernel
theorem dX0_riseByTangents_23 : decode cX0_riseByTangents 23 = .ok (.lmul, 1) := by decide +kernel
theorem dX0_riseByTangents_24 : decode cX0_riseByTangents 24 = .ok (.lsub, 1) := by decide +kernel
theorem dX0_riseByTangents_25 : decode cX0_riseByTangents 25 = .ok (.lmul, 1) := by decide +kernel
theorem dX0_riseByTangents_26 : decode cX0_riseByTangents 26 = .ok (.lload 4, 2) := by decide +kernel
theorem dX0_riseByTangents_28 : decode cX0_riseByTangents 28 = .ok (.lload 10, 2) := by decide +kernel
theorem dX0_riseByTangents_30 : decode cX0_riseByTangents 30 = .ok (.ldc2_w 85, 3) := by decide +kernel
theorem dX0_riseByTangents_33 : decode cX0_riseByTangents 33 = .ok (.lload 8, 2) := by decide +kernel
theorem dX0_riseByTangents_35 : decode cX0_riseByTangents 35 = .ok (.lmul, 1) := by decide +kernel
theorem dX0_riseByTangents_36 : decode cX0_riseByTangents 36 = .ok (.lsub, 1) := by decide +kernel
theorem dX0_riseByTangents_37 : decode cX0_riseByTangents 37 = .ok (.ldc2_w 70, 3) := by decide +kernel
theorem dX0_riseByTangents_40 : decode cX0_riseByTangents 40 = .ok (.lload_n 2, 1) := by decide +kernel
theorem dX0_riseByTangents_41 : decode cX0_riseByTangents 41 = .ok (.lmul, 1) := by decide +kernel
theorem dX0_riseByTangents_42 : decode cX0_riseByTangents 42 = .ok (.ladd, 1) := by decide +kernel
theorem dX0_riseByTangents_43 : decode cX0_riseByTangents 43 = .ok (.lmul, 1) := by decide +kernel
theorem dX0_riseByTangents_44 : decode cX0_riseByTangents 44 = .ok (.ladd, 1) := by decide +kernel
theorem dX0_riseByTangents_45 : decode cX0_riseByTangents 45 = .ok (.lload 6, 2) := by decide +kernel
theorem dX0_riseByTangents_47 : decode cX0_riseByTangents 47 = .ok (.lload 10, 2) := by decide +kernel
theorem dX0_riseByTangents_49 : decode cX0_riseByTangents 49 = .ok (.ldc2_w 68, 3) := by decide +kernel
theorem dX0_riseByTangents_52 : decode cX0_riseByTangents 52 = .ok (.lload 8, 2) := by decide +kernel
theorem dX0_riseByTangents_54 : decode cX0_riseByTangents 54 = .ok (.lmul, 1) := by decide +kernel
theorem dX0_riseByTangents_55 : decode cX0_riseByTangents 55 = .ok (.lsub, 1) := by decide +kernel
theorem dX0_riseByTangents_56 : decode cX0_riseByTangents 56 = .ok (.lmul, 1) := by decide +kernel
theorem dX0_riseByTangents_57 : decode cX0_riseByTangents 57 = .ok (.ladd, 1) := by decide +kernel
theorem dX0_riseByTangents_58 : decode cX0_riseByTangents 58 = .ok (.ldc2_w 76, 3) := by decide +kernel
theorem dX0_riseByTangents_61 : decode cX0_riseByTangents 61 = .ok (.ldiv, 1) := by decide +kernel
theorem dX0_riseByTangents_62 : decode cX0_riseByTangents 62 = .ok (.lreturn, 1) := by decide +kernel
theorem dX1_init_0 : decode cX1_init 0 = .ok (.aload_n 0, 1) := by decide +kernel
theorem dX1_init_1 : decode cX1_init 1 = .ok (.invokespecial 3, 3) := by decide +kernel
theorem dX1_init_4 : decode cX1_init 4 = .ok (.aload_n 0, 1) := by decide +kernel
theorem dX1_init_5 : decode cX1_init 5 = .ok (.sipush 150, 3) := by decide +kernel
theorem dX1_init_8 : decode cX1_init 8 = .ok (.newarray .byte, 2) := by decide +kernel
theorem dX1_init_10 : decode cX1_init 10 = .ok (.putfield 9, 3) := by decide +kernel
theorem dX1_init_13 : decode cX1_init 13 = .ok (.aload_n 0, 1) := by decide +kernel
theorem dX1_init_14 : decode cX1_init 14 = .ok (.iconst 0, 1) := by decide +kernel
theorem dX1_init_15 : decode cX1_init 15 = .ok (.putfield 15, 3) := by decide +kernel
theorem dX1_init_18 : decode cX1_init 18 = .ok (.aload_n 0, 1) := by decide +kernel
theorem dX1_init_19 : decode cX1_init 19 = .ok (.iconst 0, 1) := by decide +kernel
theorem dX1_init_20 : decode cX1_init 20 = .ok (.putfield 19, 3) := by decide +kernel
theorem dX1_init_23 : decode cX1_init 23 = .ok (.return_, 1) := by decide +kernel
set_option maxRecDepth 20000 in
theorem ggX2_init_X0_init : GoodIn wsX2_init wsX0_init := goodIn_r _ [9, 10, 2, 3, 11, 12, 13, 15, 16] (by decide +kernel) (by decide +kernel)
set_option maxRecDepth 20000 in
theorem gX2_init_X0_init_n17 : GoodIn wsX2_init (wsX0_init) := ggX2_init_X0_init
theorem dX2_init_0 : decode cX2_init 0 = .ok (.aload_n 0, 1) := by decide +kernel
theorem dX2_init_1 : decode cX2_init 1 = .ok (.invokespecial 3, 3) := by decide +kernel
theorem dX2_init_4 : decode cX2_init 4 = .ok (.aload_n 0, 1) := by decide +kernel
theorem dX2_init_5 : decode cX2_init 5 = .ok (.iconst 4, 1) := by decide +kernel
theorem dX2_init_6 : decode cX2_init 6 = .ok (.anewarray 9, 3) := by decide +kernel
theorem dX2_init_9 : decode cX2_init 9 = .ok (.putfield 11, 3) := by decide +kernel
theorem dX2_init_12 : decode cX2_init 12 = .ok (.iconst 0, 1) := by decide +kernel
theorem dX2_init_13 : decode cX2_init 13 = .ok (.istore_n 1, 1) := by decide +kernel
theorem dX2_init_14 : decode cX2_init 14 = .ok (.iload_n 1, 1) := by decide +kernel
theorem dX2_init_15 : decode cX2_init 15 = .ok (.iconst 4, 1) := by decide +kernel
theorem dX2_init_16 : decode cX2_init 16 = .ok (.if_icmp .ge 22, 3) := by decide +kernel
theorem dX2_init_19 : decode cX2_init 19 = .ok (.aload_n 0, 1) := by decide +kernel
theorem dX2_init_20 : decode cX2_init 20 = .ok (.getfield 11, 3) := by decide +kernel
theorem dX2_init_23 : decode cX2_init 23 = .ok (.iload_n 1, 1) := by decide +kernel
theorem dX2_init_24 : decode cX2_init 24 = .ok (.new 9, 3) := by decide +kernel
theorem dX2_init_27 : decode cX2_init 27 = .ok (.dup, 1) := by decide +kernel
theorem dX2_init_28 : decode cX2_init 28 = .ok (.invokespecial 17, 3) := by decide +kernel
theorem dX2_init_31 : decode cX2_init 31 = .ok (.aastore, 1) := by decide +kernel
theorem dX2_init_32 : decode cX2_init 32 = .ok (.iinc 1 1, 3) := by decide +kernel
theorem dX2_init_35 : decode cX2_init 35 = .ok (.goto (-21), 3) := by decide +kernel
theorem dX2_init_38 : decode cX2_init 38 = .ok (.return_, 1) := by decide +kernel
set_option maxRecDepth 20000 in
theorem ggX2_become_X0_become : GoodIn wsX2_become wsX0_become := goodIn_r _ [5, 6, 7, 8, 9, 10, 11, 13, 14] (by decide +kernel) (by decide +kernel)
set_option maxRecDepth 20000 in
theorem gX2_become_X0_become_n18 : GoodIn wsX2_become (wsX0_become) := ggX2_become_X0_become
theorem dX2_become_0 : decode cX2_become 0 = .ok (.iconst 0, 1) := by decide +kernel
theorem dX2_become_1 : decode cX2_become 1 = .ok (.istore_n 2, 1) := by decide +kernel
theorem dX2_become_2 : decode cX2_become 2 = .ok (.iload_n 2, 1) := by decide +kernel
theorem dX2_become_3 : decode cX2_become 3 = .ok (.iconst 4, 1) := by decide +kernel
theorem dX2_become_4 : decode cX2_become 4 = .ok (.if_icmp .ge 24, 3) := by decide +kernel
theorem dX2_become_7 : decode cX2_become 7 = .ok (.aload_n 0, 1) := by decide +kernel
theorem dX2_become_8 : decode cX2_become 8 = .ok (.getfield 11, 3) := by decide +kernel
theorem dX2_become_11 : decode cX2_become 11 = .ok (.iload_n 2, 1) := by decide +kernel
theorem dX2_become_12 : decode cX2_become 12 = .ok (.aaload, 1) := by decide +kernel
theorem dX2_become_13 : decode cX2_become 13 = .ok (.aload_n 1, 1) := by decide +kernel
theorem dX2_become_14 : decode cX2_become 14 = .ok (.getfield 11, 3) := by decide +kernel
theorem dX2_become_17 : decode cX2_become 17 = .ok (.iload_n 2, 1) := by decide +kernel
theorem dX2_become_18 : decode cX2_become 18 = .ok (.aaload, 1) := by decide +kernel
theorem dX2_become_19 : decode cX2_become 19 = .ok (.invokevirtual 18, 3) := by decide +kernel
theorem dX2_become_22 : decode cX2_become 22 = .ok (.iinc 2 1, 3) := by decide +kernel
theorem dX2_become_25 : decode cX2_become 25 = .ok (.goto (-23), 3) := by decide +kernel
theorem dX2_become_28 : decode cX2_become 28 = .ok (.return_, 1) := by decide +kernel
set_option maxRecDepth 20000 in
theorem ggX3_init_X2_init : GoodIn wsX3_init wsX2_init := goodIn_r _ [22, 23, 2, 3, 24, 25, 15, 16, 26, 27, 28, 29, 18, 30, 38, 49, 50] (by decide +kernel) (by decide +kernel)
set_option maxRecDepth 20000 in
theorem gX3_init_X2_init_n11 : GoodIn wsX3_init (wsX2_init) := ggX3_init_X2_init
set_option maxRecDepth 20000 in
theorem ggX3_init_X1_init : GoodIn wsX3_init wsX1_init := goodIn_r _ [32, 33, 2, 3, 34, 35, 36, 37, 46, 47, 48] (by decide +kernel) (by decide +kernel)
set_option maxRecDepth 20000 in
theorem gX3_init_X1_init_n26 : GoodIn wsX3_init (wsX1_init) := ggX3_init_X1_init
set_option maxRecDepth 20000 in
theorem ggX3_init_X0_init : GoodIn wsX3_init wsX0_init := goodIn_r _ [27, 28, 2, 3, 29, 18, 30, 49, 50] (by decide +kernel) (by decide +kernel)
set_option maxRecDepth 20000 in
theorem gX3_init_X0_init_n33 : GoodIn wsX3_init (wsX0_init) := ggX3_init_X0_init
