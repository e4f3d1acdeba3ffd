theorem dX0_init_0 : decode cX0_init 0 = .ok (.aload_n 0, 1) := by decide +kernel
theorem dX0_init_1 : decode cX0_init 1 = .ok (.invokespecial 3, 3) := by decide +kernel
theorem dX0_init_4 : decode cX0_init 4 = .ok (.aload_n 0, 1) := by decide +kernel
theorem dX0_init_5 : decode cX0_init 5 = .ok (.iconst 0, 1) := by decide +kernel
theorem dX0_init_6 : decode cX0_init 6 = .ok (.putfield 9, 3) := by decide +kernel
theorem dX0_init_9 : decode cX0_init 9 = .ok (.aload_n 0, 1) := by decide +kernel
theorem dX0_init_10 : decode cX0_init 10 = .ok (.bipush 96, 2) := by decide +kernel
theorem dX0_init_12 : decode cX0_init 12 = .ok (.newarray .int, 2) := by decide +kernel
theorem dX0_init_14 : decode cX0_init 14 = .ok (.putfield 15, 3) := by decide +kernel
theorem dX0_init_17 : decode cX0_init 17 = .ok (.return_, 1) := by decide +kernel
theorem dX0_cell_0 : decode cX0_cell 0 = .ok (.iload_n 1, 1) := by decide +kernel
theorem dX0_cell_1 : decode cX0_cell 1 = .ok (.ifCond .lt 25, 3) := by decide +kernel
theorem dX0_cell_4 : decode cX0_cell 4 = .ok (.iload_n 1, 1) := by decide +kernel
theorem dX0_cell_5 : decode cX0_cell 5 = .ok (.aload_n 0, 1) := by decide +kernel
theorem dX0_cell_6 : decode cX0_cell 6 = .ok (.getfield 9, 3) := by decide +kernel
theorem dX0_cell_9 : decode cX0_cell 9 = .ok (.if_icmp .ge 17, 3) := by decide +kernel
theorem dX0_cell_12 : decode cX0_cell 12 = .ok (.aload_n 0, 1) := by decide +kernel
theorem dX0_cell_13 : decode cX0_cell 13 = .ok (.getfield 15, 3) := by decide +kernel
theorem dX0_cell_16 : decode cX0_cell 16 = .ok (.iload_n 1, 1) := by decide +kernel
theorem dX0_cell_17 : decode cX0_cell 17 = .ok (.bipush 6, 2) := by decide +kernel
theorem dX0_cell_19 : decode cX0_cell 19 = .ok (.imul, 1) := by decide +kernel
theorem dX0_cell_20 : decode cX0_cell 20 = .ok (.iload_n 2, 1) := by decide +kernel
theorem dX0_cell_21 : decode cX0_cell 21 = .ok (.iadd, 1) := by decide +kernel
theorem dX0_cell_22 : decode cX0_cell 22 = .ok (.iaload, 1) := by decide +kernel
theorem dX0_cell_23 : decode cX0_cell 23 = .ok (.goto 4, 3) := by decide +kernel
theorem dX0_cell_26 : decode cX0_cell 26 = .ok (.iconst 0, 1) := by decide +kernel
theorem dX0_cell_27 : decode cX0_cell 27 = .ok (.ireturn, 1) := by decide +kernel
theorem dX0_put_0 : decode cX0_put 0 = .ok (.iload_n 1, 1) := by decide +kernel
theorem dX0_put_1 : decode cX0_put 1 = .ok (.ifCond .lt 23, 3) := by decide +kernel
theorem dX0_put_4 : decode cX0_put 4 = .ok (.iload_n 1, 1) := by decide +kernel
theorem dX0_put_5 : decode cX0_put 5 = .ok (.aload_n 0, 1) := by decide +kernel
theorem dX0_put_6 : decode cX0_put 6 = .ok (.getfield 9, 3) := by decide +kernel
theorem dX0_put_9 : decode cX0_put 9 = .ok (.if_icmp .ge 15, 3) := by decide +kernel
theorem dX0_put_12 : decode cX0_put 12 = .ok (.aload_n 0, 1) := by decide +kernel
theorem dX0_put_13 : decode cX0_put 13 = .ok (.getfield 15, 3) := by decide +kernel
theorem dX0_put_16 : decode cX0_put 16 = .ok (.iload_n 1, 1) := by decide +kernel
theorem dX0_put_17 : decode cX0_put 17 = .ok (.bipush 6, 2) := by decide +kernel
theorem dX0_put_19 : decode cX0_put 19 = .ok (.imul, 1) := by decide +kernel
theorem dX0_put_20 : decode cX0_put 20 = .ok (.iload_n 2, 1) := by decide +kernel
theorem dX0_put_21 : decode cX0_put 21 = .ok (.iadd, 1) := by decide +kernel
theorem dX0_put_22 : decode cX0_put 22 = .ok (.iload_n 3, 1) := by decide +kernel
theorem dX0_put_23 : decode cX0_put 23 = .ok (.iastore, 1) := by decide +kernel
theorem dX0_put_24 : decode cX0_put 24 = .ok (.return_, 1) := by decide +kernel
set_option maxRecDepth 20000 in
theorem ggX0_isLocked_X0_cell : GoodIn wsX0_isLocked wsX0_cell := goodIn_r _ [5, 6, 7, 8, 9] (by decide +kernel) (by decide +kernel)
set_option maxRecDepth 20000 in
theorem gX0_isLocked_X0_cell : GoodIn wsX0_isLocked (wsV RX0 19 RX0 yX0_cell wsX0_cell) := goodIn_app (goodIn_of _ (by decide +kernel)) ggX0_isLocked_X0_cell
theorem dX0_isLocked_0 : decode cX0_isLocked 0 = .ok (.aload_n 0, 1) := by decide +kernel
theorem dX0_isLocked_1 : decode cX0_isLocked 1 = .ok (.iload_n 1, 1) := by decide +kernel
theorem dX0_isLocked_2 : decode cX0_isLocked 2 = .ok (.iconst 5, 1) := by decide +kernel
theorem dX0_isLocked_3 : decode cX0_isLocked 3 = .ok (.invokevirtual 19, 3) := by decide +kernel
theorem dX0_isLocked_6 : decode cX0_isLocked 6 = .ok (.iconst 1, 1) := by decide +kernel
theorem dX0_isLocked_7 : decode cX0_isLocked 7 = .ok (.if_icmp .ne 7, 3) := by decide +kernel
theorem dX0_isLocked_10 : decode cX0_isLocked 10 = .ok (.iconst 1, 1) := by decide +kernel
theorem dX0_isLocked_11 : decode cX0_isLocked 11 = .ok (.goto 4, 3) := by decide +kernel
theorem dX0_isLocked_14 : decode cX0_isLocked 14 = .ok (.iconst 0, 1) := by decide +kernel
theorem dX0_isLocked_15 : decode cX0_isLocked 15 = .ok (.ireturn, 1) := by decide +kernel
set_option maxRecDepth 20000 in
theorem ggX0_hasLock_X0_isLocked : GoodIn wsX0_hasLock wsX0_isLocked := goodIn_r _ [6, 7, 8, 9, 5, 10, 1, 11, 12, 13] (by decide +kernel) (by decide +kernel)
set_option maxRecDepth 20000 in
theorem gX0_hasLock_X0_isLocked : GoodIn wsX0_hasLock (wsV RX0 23 RX0 yX0_isLocked wsX0_isLocked) := goodIn_app (goodIn_of _ (by decide +kernel)) ggX0_hasLock_X0_isLocked
theorem dX0_hasLock_0 : decode cX0_hasLock 0 = .ok (.iconst 0, 1) := by decide +kernel
theorem dX0_hasLock_1 : decode cX0_hasLock 1 = .ok (.istore_n 1, 1) := by decide +kernel
theorem dX0_hasLock_2 : decode cX0_hasLock 2 = .ok (.iload_n 1, 1) := by decide +kernel
theorem dX0_hasLock_3 : decode cX0_hasLock 3 = .ok (.aload_n 0, 1) := by decide +kernel
theorem dX0_hasLock_4 : decode cX0_hasLock 4 = .ok (.getfield 9, 3) := by decide +kernel
theorem dX0_hasLock_7 : decode cX0_hasLock 7 = .ok (.if_icmp .ge 19, 3) := by decide +kernel
theorem dX0_hasLock_10 : decode cX0_hasLock 10 = .ok (.aload_n 0, 1) := by decide +kernel
theorem dX0_hasLock_11 : decode cX0_hasLock 11 = .ok (.iload_n 1, 1) := by decide +kernel
theorem dX0_hasLock_12 : decode cX0_hasLock 12 = .ok (.invokevirtual 23, 3) := by decide +kernel
theorem dX0_hasLock_15 : decode cX0_hasLock 15 = .ok (.ifCond .eq 5, 3) := by decide +kernel
theorem dX0_hasLock_18 : decode cX0_hasLock 18 = .ok (.iconst 1, 1) := by decide +kernel
theorem dX0_hasLock_19 : decode cX0_hasLock 19 = .ok (.ireturn, 1) := by decide +kernel
theorem dX0_hasLock_20 : decode cX0_hasLock 20 = .ok (.iinc 1 1, 3) := by decide +kernel
theorem dX0_hasLock_23 : decode cX0_hasLock 23 = .ok (.goto (-21), 3) := by decide +kernel
theorem dX0_hasLock_26 : decode cX0_hasLock 26 = .ok (.iconst 0, 1) := by decide +kernel
theorem dX0_hasLock_27 : decode cX0_hasLock 27 = .ok (.ireturn, 1) := by decide +kernel
set_option maxRecDepth 20000 in
theorem ggX0_mayLeaveOut_X0_isLocked : GoodIn wsX0_mayLeaveOut wsX0_isLocked := goodIn_r _ [6, 7, 8, 9, 5, 10, 1, 11, 12, 13] (by decide +kernel) (by decide +kernel)
set_option maxRecDepth 20000 in
theorem gX0_mayLeaveOut_X0_isLocked : GoodIn wsX0_mayLeaveOut (wsV RX0 23 RX0 yX0_isLocked wsX0_isLocked) := goodIn_app (goodIn_of _ (by decide +kernel)) ggX0_mayLeaveOut_X0_isLocked
theorem dX0_mayLeaveOut_0 : decode cX0_mayLeaveOut 0 = .ok (.iload_n 1, 1) := by decide +kernel
theorem dX0_mayLeaveOut_1 : decode cX0_mayLeaveOut 1 = .ok (.ifCond .le 25, 3) := by decide +kernel
theorem dX0_mayLeaveOut_4 : decode cX0_mayLeaveOut 4 = .ok (.iload_n 1, 1) := by decide +kernel
theorem dX0_mayLeaveOut_5 : decode cX0_mayLeaveOut 5 = .ok (.aload_n 0, 1) := by decide +kernel
theorem dX0_mayLeaveOut_6 : decode cX0_mayLeaveOut 6 = .ok (.getfield 9, 3) := by decide +kernel
theorem dX0_mayLeaveOut_9 : decode cX0_mayLeaveOut 9 = .ok (.iconst 1, 1) := by decide +kernel
theorem dX0_mayLeaveOut_10 : decode cX0_mayLeaveOut 10 = .ok (.isub, 1) := by decide +kernel
theorem dX0_mayLeaveOut_11 : decode cX0_mayLeaveOut 11 = .ok (.if_icmp .ge 15, 3) := by decide +kernel
theorem dX0_mayLeaveOut_14 : decode cX0_mayLeaveOut 14 = .ok (.aload_n 0, 1) := by decide +kernel
theorem dX0_mayLeaveOut_15 : decode cX0_mayLeaveOut 15 = .ok (.iload_n 1, 1) := by decide +kernel
theorem dX0_mayLeaveOut_16 : decode cX0_mayLeaveOut 16 = .ok (.invokevirtual 23, 3) := by decide +kernel
theorem dX0_mayLeaveOut_19 : decode cX0_mayLeaveOut 19 = .ok (.ifCond .ne 7, 3) := by decide +kernel
theorem dX0_mayLeaveOut_22 : decode cX0_mayLeaveOut 22 = .ok (.iconst 1, 1) := by decide +kernel
theorem dX0_mayLeaveOut_23 : decode cX0_mayLeaveOut 23 = .ok (.goto 4, 3) := by decide +kernel
theorem dX0_mayLeaveOut_26 : decode cX0_mayLeaveOut 26 = .ok (.iconst 0, 1) := by decide +kernel
theorem dX0_mayLeaveOut_27 : decode cX0_mayLeaveOut 27 = .ok (.ireturn, 1) := by decide +kernel
set_option maxRecDepth 20000 in
theorem ggX0_countUpTo_X0_cell : GoodIn wsX0_countUpTo wsX0_cell := goodIn_r _ [6, 1, 7, 8, 9] (by decide +kernel) (by decide +kernel)
set_option maxRecDepth 20000 in
theorem gX0_countUpTo_X0_cell : GoodIn wsX0_countUpTo (wsV RX0 19 RX0 yX0_cell wsX0_cell) := goodIn_app (goodIn_of _ (by decide +kernel)) ggX0_countUpTo_X0_cell
theorem dX0_countUpTo_0 : decode cX0_countUpTo 0 = .ok (.iconst 0, 1) := by decide +kernel
theorem dX0_countUpTo_1 : decode cX0_countUpTo 1 = .ok (.istore_n 2, 1) := by decide +kernel
theorem dX0_countUpTo_2 : decode cX0_countUpTo 2 = .ok (.iload_n 2, 1) := by decide +kernel
theorem dX0_countUpTo_3 : decode cX0_countUpTo 3 = .ok (.aload_n 0, 1) := by decide +kernel
theorem dX0_countUpTo_4 : decode cX0_countUpTo 4 = .ok (.getfield 9, 3) := by decide +kernel
theorem dX0_countUpTo_7 : decode cX0_countUpTo 7 = .ok (.if_icmp .ge 19, 3) := by decide +kernel
theorem dX0_countUpTo_10 : decode cX0_countUpTo 10 = .ok (.aload_n 0, 1) := by decide +kernel
theorem dX0_countUpTo_11 : decode cX0_countUpTo 11 = .ok (.iload_n 2, 1) := by decide +kernel
theorem dX0_countUpTo_12 : decode cX0_countUpTo 12 = .ok (.iconst 0, 1) := by decide +kernel
theorem dX0_countUpTo_13 : decode cX0_countUpTo 13 = .ok (.invokevirtual 19, 3) := by decide +kernel
theorem dX0_countUpTo_16 : decode cX0_countUpTo 16 = .ok (.iload_n 1, 1) := by decide +kernel
theorem dX0_countUpTo_17 : decode cX0_countUpTo 17 = .ok (.if_icmp .gt 9, 3) := by decide +kernel
theorem dX0_countUpTo_20 : decode cX0_countUpTo 20 = .ok (.iinc 2 1, 3) := by decide +kernel
theorem dX0_countUpTo_23 : decode cX0_countUpTo 23 = .ok (.goto (-21), 3) := by decide +kernel
theorem dX0_countUpTo_26 : decode cX0_countUpTo 26 = .ok (.iload_n 2, 1) := by decide +kernel
theorem dX0_countUpTo_27 : decode cX0_countUpTo 27 = .ok (.ireturn, 1) := by decide +kernel
set_option maxRecDepth 20000 in
theorem ggX0_numberAtFrame_X0_countUpTo : GoodIn wsX0_numberAtFrame wsX0_countUpTo := goodIn_r _ [5, 6, 7, 8, 9, 4, 10, 11, 12, 13] (by decide +kernel) (by decide +kernel)
set_option maxRecDepth 20000 in
theorem gX0_numberAtFrame_X0_countUpTo : GoodIn wsX0_numberAtFrame (wsV RX0 27 RX0 yX0_countUpTo wsX0_countUpTo) := goodIn_app (goodIn_of _ (by decide +kernel)) ggX0_numberAtFrame_X0_countUpTo
set_option maxRecDepth 20000 in
theorem ggX0_numberAtFrame_X0_cell : GoodIn wsX0_numberAtFrame wsX0_cell := goodIn_r _ [10, 6, 11, 12, 13] (by decide +kernel) (by decide +kernel)
set_option maxRecDepth 20000 in
theorem gX0_numberAtFrame_X0_cell : GoodIn wsX0_numberAtFrame (wsV RX0 19 RX0 yX0_cell wsX0_cell) := goodIn_app (goodIn_of _ (by decide +kernel)) ggX0_numberAtFrame_X0_cell
theorem dX0_numberAtFrame_0 : decode cX0_numberAtFrame 0 = .ok (.aload_n 0, 1) := by decide +kernel
theorem dX0_numberAtFrame_1 : decode cX0_numberAtFrame 1 = .ok (.iload_n 1, 1) := by decide +kernel
theorem dX0_numberAtFrame_2 : decode cX0_numberAtFrame 2 = .ok (.invokevirtual 27, 3) := by decide +kernel
theorem dX0_numberAtFrame_5 : decode cX0_numberAtFrame 5 = .ok (.iconst 1, 1) := by decide +kernel
theorem dX0_numberAtFrame_6 : decode cX0_numberAtFrame 6 = .ok (.isub, 1) := by decide +kernel
theorem dX0_numberAtFrame_7 : decode cX0_numberAtFrame 7 = .ok (.istore_n 2, 1) := by decide +kernel
theorem dX0_numberAtFrame_8 : decode cX0_numberAtFrame 8 = .ok (.iload_n 2, 1) := by decide +kernel
theorem dX0_numberAtFrame_9 : decode cX0_numberAtFrame 9 = .ok (.ifCond .lt 17, 3) := by decide +kernel
theorem dX0_numberAtFrame_12 : decode cX0_numberAtFrame 12 = .ok (.aload_n 0, 1) := by decide +kernel
theorem dX0_numberAtFrame_13 : decode cX0_numberAtFrame 13 = .ok (.iload_n 2, 1) := by decide +kernel
theorem dX0_numberAtFrame_14 : decode cX0_numberAtFrame 14 = .ok (.iconst 0, 1) := by decide +kernel
theorem dX0_numberAtFrame_15 : decode cX0_numberAtFrame 15 = .ok (.invokevirtual 19, 3) := by decide +kernel
theorem dX0_numberAtFrame_18 : decode cX0_numberAtFrame 18 = .ok (.iload_n 1, 1) := by decide +kernel
theorem dX0_numberAtFrame_19 : decode cX0_numberAtFrame 19 = .ok (.if_icmp .ne 7, 3) := by decide +kernel
theorem dX0_numberAtFrame_22 : decode cX0_numberAtFrame 22 = .ok (.iload_n 2, 1) := by decide +kernel
theorem dX0_numberAtFrame_23 : decode cX0_numberAtFrame 23 = .ok (.goto 4, 3) := by decide +kernel
theorem dX0_numberAtFrame_26 : decode cX0_numberAtFrame 26 = .ok (.iconst (-1), 1) := by decide +kernel
theorem dX0_numberAtFrame_27 : decode cX0_numberAtFrame 27 = .ok (.ireturn, 1) := by decide +kernel
set_option maxRecDepth 20000 in
theorem ggX0_lastFrame_X0_cell : GoodIn wsX0_lastFrame wsX0_cell := goodIn_r _ [6, 1, 7, 8, 9] (by decide +kernel) (by decide +kernel)
set_option maxRecDepth 20000 in
theorem gX0_lastFrame_X0_cell : GoodIn wsX0_lastFrame (wsV RX0 19 RX0 yX0_cell wsX0_cell) := goodIn_app (goodIn_of _ (by decide +kernel)) ggX0_lastFrame_X0_cell
theorem dX0_lastFrame_0 : decode cX0_lastFrame 0 = .ok (.aload_n 0, 1) := by decide +kernel
theorem dX0_lastFrame_1 : decode cX0_lastFrame 1 = .ok (.getfield 9, 3) := by decide +kernel
theorem dX0_lastFrame_4 : decode cX0_lastFrame 4 = .ok (.ifCond .ne 7, 3) := by decide +kernel
theorem dX0_lastFrame_7 : decode cX0_lastFrame 7 = .ok (.iconst (-1), 1) := by decide +kernel
theorem dX0_lastFrame_8 : decode cX0_lastFrame 8 = .ok (.goto 14, 3) := by decide +kernel
theorem dX0_lastFrame_11 : decode cX0_lastFrame 11 = .ok (.aload_n 0, 1) := by decide +kernel
theorem dX0_lastFrame_12 : decode cX0_lastFrame 12 = .ok (.aload_n 0, 1) := by decide +kernel
theorem dX0_lastFrame_13 : decode cX0_lastFrame 13 = .ok (.getfield 9, 3) := by decide +kernel
theorem dX0_lastFrame_16 : decode cX0_lastFrame 16 = .ok (.iconst 1, 1) := by decide +kernel
theorem dX0_lastFrame_17 : decode cX0_lastFrame 17 = .ok (.isub, 1) := by decide +kernel
theorem dX0_lastFrame_18 : decode cX0_lastFrame 18 = .ok (.iconst 0, 1) := by decide +kernel
theorem dX0_lastFrame_19 : decode cX0_lastFrame 19 = .ok (.invokevirtual 19, 3) := by decide +kernel
theorem dX0_lastFrame_22 : decode cX0_lastFrame 22 = .ok (.ireturn, 1) := by decide +kernel
theorem dX0_become_0 : decode cX0_become 0 = .ok (.aload_n 0, 1) := by decide +kernel
theorem dX0_become_1 : decode cX0_become 1 = .ok (.aload_n 1, 1) := by decide +kernel
theorem dX0_become_2 : decode cX0_become 2 = .ok (.getfield 9, 3) := by decide +kernel
theorem dX0_become_5 : decode cX0_become 5 = .ok (.putfield 9, 3) := by decide +kernel
theorem dX0_become_8 : decode cX0_become 8 = .ok (.aload_n 1, 1) := by decide +kernel
theorem dX0_become_9 : decode cX0_become 9 = .ok (.getfield 15, 3) := by decide +kernel
theorem dX0_become_12 : decode cX0_become 12 = .ok (.iconst 0, 1) := by decide +kernel
theorem dX0_become_13 : decode cX0_become 13 = .ok (.aload_n 0, 1) := by decide +kernel
theorem dX0_become_14 : decode cX0_become 14 = .ok (.getfield 15, 3) := by decide +kernel
theorem dX0_become_17 : decode cX0_become 17 = .ok (.iconst 0, 1) := by decide +kernel
theorem dX0_become_18 : decode cX0_become 18 = .ok (.aload_n 0, 1) := by decide +kernel
theorem dX0_become_19 : decode cX0_become 19 = .ok (.getfield 9, 3) := by decide +kernel
theorem dX0_become_22 : decode cX0_become 22 = .ok (.bipush 6, 2) := by decide +kernel
theorem dX0_become_24 : decode cX0_become 24 = .ok (.imul, 1) := by decide +kernel
theorem dX0_become_25 : decode cX0_become 25 = .ok (.invokestatic 31, 3) := by decide +kernel
theorem dX0_become_28 : decode cX0_become 28 = .ok (.return_, 1) := by decide +kernel
set_option maxRecDepth 20000 in
theorem ggX0_insert_X0_countUpTo : GoodIn wsX0_insert wsX0_countUpTo := goodIn_r _ [11, 1, 12, 13, 14, 10, 15, 2, 20, 21] (by decide +kernel) (by decide +kernel)
set_option maxRecDepth 20000 in
theorem gX0_insert_X0_countUpTo : GoodIn wsX0_insert (wsV RX0 27 RX0 yX0_countUpTo wsX0_countUpTo) := goodIn_app (goodIn_of _ (by decide +kernel)) ggX0_insert_X0_countUpTo
set_option maxRecDepth 20000 in
theorem ggX0_insert_X0_put : GoodIn wsX0_insert wsX0_put := goodIn_r _ [19, 1, 2, 20, 21] (by decide +kernel) (by decide +kernel)
set_option maxRecDepth 20000 in
theorem gX0_insert_X0_put : GoodIn wsX0_insert (wsV RX0 37 RX0 yX0_put wsX0_put) := goodIn_app (goodIn_of _ (by decide +kernel)) ggX0_insert_X0_put
theorem dX0_insert_0 : decode cX0_insert 0 = .ok (.aload_n 0, 1) := by decide +kernel
theorem dX0_insert_1 : decode cX0_insert 1 = .ok (.getfield 9, 3) := by decide +kernel
theorem dX0_insert_4 : decode cX0_insert 4 = .ok (.bipush 16, 2) := by decide +kernel
theorem dX0_insert_6 : decode cX0_insert 6 = .ok (.if_icmp .lt 5, 3) := by decide +kernel
theorem dX0_insert_9 : decode cX0_insert 9 = .ok (.iconst (-1), 1) := by decide +kernel
theorem dX0_insert_10 : decode cX0_insert 10 = .ok (.ireturn, 1) := by decide +kernel
theorem dX0_insert_11 : decode cX0_insert 11 = .ok (.aload_n 0, 1) := by decide +kernel
theorem dX0_insert_12 : decode cX0_insert 12 = .ok (.iload_n 1, 1) := by decide +kernel
theorem dX0_insert_13 : decode cX0_insert 13 = .ok (.invokevirtual 27, 3) := by decide +kernel
theorem dX0_insert_16 : decode cX0_insert 16 = .ok (.istore 7, 2) := by decide +kernel
theorem dX0_insert_18 : decode cX0_insert 18 = .ok (.iload 7, 2) := by decide +kernel
theorem dX0_insert_20 : decode cX0_insert 20 = .ok (.bipush 6, 2) := by decide +kernel
theorem dX0_insert_22 : decode cX0_insert 22 = .ok (.imul, 1) := by decide +kernel
theorem dX0_insert_23 : decode cX0_insert 23 = .ok (.istore 8, 2) := by decide +kernel
theorem dX0_insert_25 : decode cX0_insert 25 = .ok (.aload_n 0, 1) := by decide +kernel
theorem dX0_insert_26 : decode cX0_insert 26 = .ok (.getfield 15, 3) := by decide +kernel
theorem dX0_insert_29 : decode cX0_insert 29 = .ok (.iload 8, 2) := by decide +kernel
theorem dX0_insert_31 : decode cX0_insert 31 = .ok (.aload_n 0, 1) := by decide +kernel
theorem dX0_insert_32 : decode cX0_insert 32 = .ok (.getfield 15, 3) := by decide +kernel
theorem dX0_insert_35 : decode cX0_insert 35 = .ok (.iload 8, 2) := by decide +kernel
theorem dX0_insert_37 : decode cX0_insert 37 = .ok (.bipush 6, 2) := by decide +kernel
theorem dX0_insert_39 : decode cX0_insert 39 = .ok (.iadd, 1) := by decide +kernel
theorem dX0_insert_40 : decode cX0_insert 40 = .ok (.aload_n 0, 1) := by decide +kernel
theorem dX0_insert_41 : decode cX0_insert 41 = .ok (.getfield 9, 3) := by decide +kernel
theorem dX0_insert_44 : decode cX0_insert 44 = .ok (.iload 7, 2) := by decide +kernel
theorem dX0_insert_46 : decode cX0_insert 46 = .ok (.isub, 1) := by decide +kernel
theorem dX0_insert_47 : decode cX0_insert 47 = .ok (.bipush 6, 2) := by decide +kernel
theorem dX0_insert_49 : decode cX0_insert 49 = .ok (.imul, 1) := by decide +kernel
theorem dX0_insert_50 : decode cX0_insert 50 = .ok (.invokestatic 31, 3) := by decide +kernel
theorem dX0_insert_53 : decode cX0_insert 53 = .ok (.aload_n 0, 1) := by decide +kernel
theorem dX0_insert_54 : decode cX0_insert 54 = .ok (.dup, 1) := by decide +kernel
theorem dX0_insert_55 : decode cX0_insert 55 = .ok (.getfield 9, 3) := by decide +kernel
theorem dX0_insert_58 : decode cX0_insert 58 = .ok (.iconst 1, 1) := by decide +kernel
theorem dX0_insert_59 : decode cX0_insert 59 = .ok (.iadd, 1) := by decide +kernel
theorem dX0_insert_60 : decode cX0_insert 60 = .ok (.putfield 9, 3) := by decide +kernel
theorem dX0_insert_63 : decode cX0_insert 63 = .ok (.aload_n 0, 1) := by decide +kernel
theorem dX0_insert_64 : decode cX0_insert 64 = .ok (.iload 7, 2) := by decide +kernel
theorem dX0_insert_66 : decode cX0_insert 66 = .ok (.iconst 0, 1) := by decide +kernel
theorem dX0_insert_67 : decode cX0_insert 67 = .ok (.iload_n 1, 1) := by decide +kernel
theorem dX0_insert_68 : decode cX0_insert 68 = .ok (.invokevirtual 37, 3) := by decide +kernel
theorem dX0_insert_71 : decode cX0_insert 71 = .ok (.aload_n 0, 1) := by decide +kernel
theorem dX0_insert_72 : decode cX0_insert 72 = .ok (.iload 7, 2) := by decide +kernel
theorem dX0_insert_74 : decode cX0_insert 74 = .ok (.iconst 1, 1) := by decide +kernel
theorem dX0_insert_75 : decode cX0_insert 75 = .ok (.iload_n 2, 1) := by decide +kernel
theorem dX0_insert_76 : decode cX0_insert 76 = .ok (.invokevirtual 37, 3) := by decide +kernel
theorem dX0_insert_79 : decode cX0_insert 79 = .ok (.aload_n 0, 1) := by decide +kernel
theorem dX0_insert_80 : decode cX0_insert 80 = .ok (.iload 7, 2) := by decide +kernel
theorem dX0_insert_82 : decode cX0_insert 82 = .ok (.iconst 2, 1) := by decide +kernel
theorem dX0_insert_83 : decode cX0_insert 83 = .ok (.iload_n 3, 1) := by decide +kernel
theorem dX0_insert_84 : decode cX0_insert 84 = .ok (.invokevirtual 37, 3) := by decide +kernel
theorem dX0_insert_87 : decode cX0_insert 87 = .ok (.aload_n 0, 1) := by decide +kernel
theorem dX0_insert_88 : decode cX0_insert 88 = .ok (.iload 7, 2) := by decide +kernel
theorem dX0_insert_90 : decode cX0_insert 90 = .ok (.iconst 3, 1) := by decide +kernel
theorem dX0_insert_91 : decode cX0_insert 91 = .ok (.iload 4, 2) := by decide +kernel
theorem dX0_insert_93 : decode cX0_insert 93 = .ok (.invokevirtual 37, 3) := by decide +kernel
theorem dX0_insert_96 : decode cX0_insert 96 = .ok (.aload_n 0, 1) := by decide +kernel
theorem dX0_insert_97 : decode cX0_insert 97 = .ok (.iload 7, 2) := by decide +kernel
theorem dX0_insert_99 : decode cX0_insert 99 = .ok (.iconst 4, 1) := by decide +kernel
theorem dX0_insert_100 : decode cX0_insert 100 = .ok (.iload 5, 2) := by decide +kernel
theorem dX0_insert_102 : decode cX0_insert 102 = .ok (.invokevirtual 37, 3) := by decide +kernel
theorem dX0_insert_105 : decode cX0_insert 105 = .ok (.aload_n 0, 1) := by decide +kernel
theorem dX0_insert_106 : decode cX0_insert 106 = .ok (.iload 7, 2) := by decide +kernel
theorem dX0_insert_108 : decode cX0_insert 108 = .ok (.iconst 5, 1) := by decide +kernel
theorem dX0_insert_109 : decode cX0_insert 109 = .ok (.iload 6, 2) := by decide +kernel
theorem dX0_insert_111 : decode cX0_insert 111 = .ok (.invokevirtual 37, 3) := by decide +kernel
theorem dX0_insert_114 : decode cX0_insert 114 = .ok (.iload 7, 2) := by decide +kernel
theorem dX0_insert_116 : decode cX0_insert 116 = .ok (.ireturn, 1) := by decide +kernel
theorem dX0_takeOut_0 : decode cX0_takeOut 0 = .ok (.iload_n 1, 1) := by decide +kernel
theorem dX0_takeOut_1 : decode cX0_takeOut 1 = .ok (.ifCond .lt 11, 3) := by decide +kernel
theorem dX0_takeOut_4 : decode cX0_takeOut 4 = .ok (.iload_n 1, 1) := by decide +kernel
theorem dX0_takeOut_5 : decode cX0_takeOut 5 = .ok (.aload_n 0, 1) := by decide +kernel
theorem dX0_takeOut_6 : decode cX0_takeOut 6 = .ok (.getfield 9, 3) := by decide +kernel
theorem dX0_takeOut_9 : decode cX0_takeOut 9 = .ok (.if_icmp .lt 4, 3) := by decide +kernel
theorem dX0_takeOut_12 : decode cX0_takeOut 12 = .ok (.return_, 1) := by decide +kernel
theorem dX0_takeOut_13 : decode cX0_takeOut 13 = .ok (.iload_n 1, 1) := by decide +kernel
theorem dX0_takeOut_14 : decode cX0_takeOut 14 = .ok (.iconst 1, 1) := by decide +kernel
theorem dX0_takeOut_15 : decode cX0_takeOut 15 = .ok (.iadd, 1) := by decide +kernel
theorem dX0_takeOut_16 : decode cX0_takeOut 16 = .ok (.bipush 6, 2) := by decide +kernel
theorem dX0_takeOut_18 : decode cX0_takeOut 18 = .ok (.imul, 1) := by decide +kernel
theorem dX0_takeOut_19 : decode cX0_takeOut 19 = .ok (.istore_n 2, 1) := by decide +kernel
theorem dX0_takeOut_20 : decode cX0_takeOut 20 = .ok (.aload_n 0, 1) := by decide +kernel
theorem dX0_takeOut_21 : decode cX0_takeOut 21 = .ok (.getfield 15, 3) := by decide +kernel
theorem dX0_takeOut_24 : decode cX0_takeOut 24 = .ok (.iload_n 2, 1) := by decide +kernel
theorem dX0_takeOut_25 : decode cX0_takeOut 25 = .ok (.aload_n 0, 1) := by decide +kernel
theorem dX0_takeOut_26 : decode cX0_takeOut 26 = .ok (.getfield 15, 3) := by decide +kernel
theorem dX0_takeOut_29 : decode cX0_takeOut 29 = .ok (.iload_n 2, 1) := by decide +kernel
theorem dX0_takeOut_30 : decode cX0_takeOut 30 = .ok (.bipush 6, 2) := by decide +kernel
theorem dX0_takeOut_32 : decode cX0_takeOut 32 = .ok (.isub, 1) := by decide +kernel
theorem dX0_takeOut_33 : decode cX0_takeOut 33 = .ok (.aload_n 0, 1) := by decide +kernel
theorem dX0_takeOut_34 : decode cX0_takeOut 34 = .ok (.getfield 9, 3) := by decide +kernel
theorem dX0_takeOut_37 : decode cX0_takeOut 37 = .ok (.bipush 6, 2) := by decide +kernel
theorem dX0_takeOut_39 : decode cX0_takeOut 39 = .ok (.imul, 1) := by decide +kernel
theorem dX0_takeOut_40 : decode cX0_takeOut 40 = .ok (.iload_n 2, 1) := by decide +kernel
theorem dX0_takeOut_41 : decode cX0_takeOut 41 = .ok (.isub, 1) := by decide +kernel
theorem dX0_takeOut_42 : decode cX0_takeOut 42 = .ok (.invokestatic 31, 3) := by decide +kernel
theorem dX0_takeOut_45 : decode cX0_takeOut 45 = .ok (.aload_n 0, 1) := by decide +kernel
theorem dX0_takeOut_46 : decode cX0_takeOut 46 = .ok (.dup, 1) := by decide +kernel
theorem dX0_takeOut_47 : decode cX0_takeOut 47 = .ok (.getfield 9, 3) := by decide +kernel
theorem dX0_takeOut_50 : decode cX0_takeOut 50 = .ok (.iconst 1, 1) := by decide +kernel
theorem dX0_takeOut_51 : decode cX0_takeOut 51 = .ok (.isub, 1) := by decide +kernel
theorem dX0_takeOut_52 : decode cX0_takeOut 52 = .ok (.putfield 9, 3) := by decide +kernel
theorem dX0_takeOut_55 : decode cX0_takeOut 55 = .ok (.return_, 1) := by decide +kernel
set_option maxRecDepth 20000 in
theorem ggX0_moveTo_X0_cell : GoodIn wsX0_moveTo wsX0_cell := goodIn_r _ [5, 6, 7, 28, 29] (by decide +kernel) (by decide +kernel)
set_option maxRecDepth 20000 in
theorem gX0_moveTo_X0_cell : GoodIn wsX0_moveTo (wsV RX0 19 RX0 yX0_cell wsX0_cell) := goodIn_app (goodIn_of _ (by decide +kernel)) ggX0_moveTo_X0_cell
set_option maxRecDepth 20000 in
theorem ggX0_moveTo_X0_takeOut : GoodIn wsX0_moveTo wsX0_takeOut := goodIn_r _ [11, 6, 7, 12, 13, 14, 15, 28, 29] (by decide +kernel) (by decide +kernel)
set_option maxRecDepth 20000 in
theorem gX0_moveTo_X0_takeOut : GoodIn wsX0_moveTo (wsV RX0 41 RX0 yX0_takeOut wsX0_takeOut) := goodIn_app (goodIn_of _ (by decide +kernel)) ggX0_moveTo_X0_takeOut
set_option maxRecDepth 20000 in
theorem ggX0_moveTo_X0_insert : GoodIn wsX0_moveTo wsX0_insert := goodIn_r _ [19, 6, 7, 12, 13, 14, 15, 20, 21, 22, 4, 23, 1, 2, 3, 5, 24, 25, 26, 27, 28, 29] (by decide +kernel) (by decide +kernel)
set_option maxRecDepth 20000 in
theorem gX0_moveTo_X0_insert : GoodIn wsX0_moveTo (wsV RX0 45 RX0 yX0_insert wsX0_insert) := goodIn_app (goodIn_of _ (by decide +kernel)) ggX0_moveTo_X0_insert
theorem dX0_moveTo_0 : decode cX0_moveTo 0 = .ok (.aload_n 0, 1) := by decide +kernel
theorem dX0_moveTo_1 : decode cX0_moveTo 1 = .ok (.iload_n 1, 1) := by decide +kernel
theorem dX0_moveTo_2 : decode cX0_moveTo 2 = .ok (.iconst 1, 1) := by decide +kernel
theorem dX0_moveTo_3 : decode cX0_moveTo 3 = .ok (.invokevirtual 19, 3) := by decide +kernel
theorem dX0_moveTo_6 : decode cX0_moveTo 6 = .ok (.istore_n 3, 1) := by decide +kernel
theorem dX0_moveTo_7 : decode cX0_moveTo 7 = .ok (.aload_n 0, 1) := by decide +kernel
theorem dX0_moveTo_8 : decode cX0_moveTo 8 = .ok (.iload_n 1, 1) := by decide +kernel
theorem dX0_moveTo_9 : decode cX0_moveTo 9 = .ok (.iconst 2, 1) := by decide +kernel
theorem dX0_moveTo_10 : decode cX0_moveTo 10 = .ok (.invokevirtual 19, 3) := by decide +kernel
theorem dX0_moveTo_13 : decode cX0_moveTo 13 = .ok (.istore 4, 2) := by decide +kernel
theorem dX0_moveTo_15 : decode cX0_moveTo 15 = .ok (.aload_n 0, 1) := by decide +kernel
theorem dX0_moveTo_16 : decode cX0_moveTo 16 = .ok (.iload_n 1, 1) := by decide +kernel
theorem dX0_moveTo_17 : decode cX0_moveTo 17 = .ok (.iconst 3, 1) := by decide +kernel
theorem dX0_moveTo_18 : decode cX0_moveTo 18 = .ok (.invokevirtual 19, 3) := by decide +kernel
theorem dX0_moveTo_21 : decode cX0_moveTo 21 = .ok (.istore 5, 2) := by decide +kernel
theorem dX0_moveTo_23 : decode cX0_moveTo 23 = .ok (.aload_n 0, 1) := by decide +kernel
theorem dX0_moveTo_24 : decode cX0_moveTo 24 = .ok (.iload_n 1, 1) := by decide +kernel
theorem dX0_moveTo_25 : decode cX0_moveTo 25 = .ok (.iconst 4, 1) := by decide +kernel
theorem dX0_moveTo_26 : decode cX0_moveTo 26 = .ok (.invokevirtual 19, 3) := by decide +kernel
theorem dX0_moveTo_29 : decode cX0_moveTo 29 = .ok (.istore 6, 2) := by decide +kernel
theorem dX0_moveTo_31 : decode cX0_moveTo 31 = .ok (.aload_n 0, 1) := by decide +kernel
theorem dX0_moveTo_32 : decode cX0_moveTo 32 = .ok (.iload_n 1, 1) := by decide +kernel
theorem dX0_moveTo_33 : decode cX0_moveTo 33 = .ok (.iconst 5, 1) := by decide +kernel
theorem dX0_moveTo_34 : decode cX0_moveTo 34 = .ok (.invokevirtual 19, 3) := by decide +kernel
theorem dX0_moveTo_37 : decode cX0_moveTo 37 = .ok (.istore 7, 2) := by decide +kernel
theorem dX0_moveTo_39 : decode cX0_moveTo 39 = .ok (.aload_n 0, 1) := by decide +kernel
theorem dX0_moveTo_40 : decode cX0_moveTo 40 = .ok (.iload_n 1, 1) := by decide +kernel
theorem dX0_moveTo_41 : decode cX0_moveTo 41 = .ok (.invokevirtual 41, 3) := by decide +kernel
theorem dX0_moveTo_44 : decode cX0_moveTo 44 = .ok (.aload_n 0, 1) := by decide +kernel
theorem dX0_moveTo_45 : decode cX0_moveTo 45 = .ok (.iload_n 2, 1) := by decide +kernel
theorem dX0_moveTo_46 : decode cX0_moveTo 46 = .ok (.iload_n 3, 1) := by decide +kernel
theorem dX0_moveTo_47 : decode cX0_moveTo 47 = .ok (.iload 4, 2) := by decide +kernel
theorem dX0_moveTo_49 : decode cX0_moveTo 49 = .ok (.iload 5, 2) := by decide +kernel
theorem dX0_moveTo_51 : decode cX0_moveTo 51 = .ok (.iload 6, 2) := by decide +kernel
theorem dX0_moveTo_53 : decode cX0_moveTo 53 = .ok (.iload 7, 2) := by decide +kernel
theorem dX0_moveTo_55 : decode cX0_moveTo 55 = .ok (.invokevirtual 45, 3) := by decide +kernel
theorem dX0_moveTo_58 : decode cX0_moveTo 58 = .ok (.ireturn, 1) := by decide +kernel
set_option maxRecDepth 20000 in
theorem ggX0_canRaise_X0_cell : GoodIn wsX0_canRaise wsX0_cell := goodIn_r _ [10, 1, 11, 12, 13] (by decide +kernel) (by decide +kernel)
set_option maxRecDepth 20000 in
theorem gX0_canRaise_X0_cell : GoodIn wsX0_canRaise (wsV RX0 19 RX0 yX0_cell wsX0_cell) := goodIn_app (goodIn_of _ (by decide +kernel)) ggX0_canRaise_X0_cell
theorem dX0_canRaise_0 : decode cX0_canRaise 0 = .ok (.iconst 0, 1) := by decide +kernel
theorem dX0_canRaise_1 : decode cX0_canRaise 1 = .ok (.istore_n 2, 1) := by decide +kernel
theorem dX0_canRaise_2 : decode cX0_canRaise 2 = .ok (.iload_n 2, 1) := by decide +kernel
theorem dX0_canRaise_3 : decode cX0_canRaise 3 = .ok (.aload_n 0, 1) := by decide +kernel
theorem dX0_canRaise_4 : decode cX0_canRaise 4 = .ok (.getfield 9, 3) := by decide +kernel
theorem dX0_canRaise_7 : decode cX0_canRaise 7 = .ok (.if_icmp .ge 28, 3) := by decide +kernel
theorem dX0_canRaise_10 : decode cX0_canRaise 10 = .ok (.aload_n 0, 1) := by decide +kernel
theorem dX0_canRaise_11 : decode cX0_canRaise 11 = .ok (.iload_n 2, 1) := by decide +kernel
theorem dX0_canRaise_12 : decode cX0_canRaise 12 = .ok (.iconst 1, 1) := by decide +kernel
theorem dX0_canRaise_13 : decode cX0_canRaise 13 = .ok (.invokevirtual 19, 3) := by decide +kernel
theorem dX0_canRaise_16 : decode cX0_canRaise 16 = .ok (.iload_n 1, 1) := by decide +kernel
theorem dX0_canRaise_17 : decode cX0_canRaise 17 = .ok (.iadd, 1) := by decide +kernel
theorem dX0_canRaise_18 : decode cX0_canRaise 18 = .ok (.invokestatic 49, 3) := by decide +kernel
theorem dX0_canRaise_21 : decode cX0_canRaise 21 = .ok (.sipush 9999, 3) := by decide +kernel
theorem dX0_canRaise_24 : decode cX0_canRaise 24 = .ok (.if_icmp .le 5, 3) := by decide +kernel
theorem dX0_canRaise_27 : decode cX0_canRaise 27 = .ok (.iconst 0, 1) := by decide +kernel
theorem dX0_canRaise_28 : decode cX0_canRaise 28 = .ok (.ireturn, 1) := by decide +kernel
theorem dX0_canRaise_29 : decode cX0_canRaise 29 = .ok (.iinc 2 1, 3) := by decide +kernel
theorem dX0_canRaise_32 : decode cX0_canRaise 32 = .ok (.goto (-30), 3) := by decide +kernel
theorem dX0_canRaise_35 : decode cX0_canRaise 35 = .ok (.iconst 1, 1) := by decide +kernel
theorem dX0_canRaise_36 : decode cX0_canRaise 36 = .ok (.ireturn, 1) := by decide +kernel
set_option maxRecDepth 20000 in
theorem ggX0_raise_X0_cell : GoodIn wsX0_raise wsX0_cell := goodIn_r _ [6, 1, 7, 12, 13] (by decide +kernel) (by decide +kernel)
set_option maxRecDepth 20000 in
theorem gX0_raise_X0_cell : GoodIn wsX0_raise (wsV RX0 19 RX0 yX0_cell wsX0_cell) := goodIn_app (goodIn_of _ (by decide +kernel)) ggX0_raise_X0_cell
set_option maxRecDepth 20000 in
theorem ggX0_raise_X0_put : GoodIn wsX0_raise wsX0_put := goodIn_r _ [11, 1, 7, 12, 13] (by decide +kernel) (by decide +kernel)
set_option maxRecDepth 20000 in
theorem gX0_raise_X0_put : GoodIn wsX0_raise (wsV RX0 37 RX0 yX0_put wsX0_put) := goodIn_app (goodIn_of _ (by decide +kernel)) ggX0_raise_X0_put
theorem dX0_raise_0 : decode cX0_raise 0 = .ok (.iconst 0, 1) := by decide +kernel
theorem dX0_raise_1 : decode cX0_raise 1 = .ok (.istore_n 2, 1) := by decide +kernel
theorem dX0_raise_2 : decode cX0_raise 2 = .ok (.iload_n 2, 1) := by decide +kernel
theorem dX0_raise_3 : decode cX0_raise 3 = .ok (.aload_n 0, 1) := by decide +kernel
theorem dX0_raise_4 : decode cX0_raise 4 = .ok (.getfield 9, 3) := by decide +kernel
theorem dX0_raise_7 : decode cX0_raise 7 = .ok (.if_icmp .ge 23, 3) := by decide +kernel
theorem dX0_raise_10 : decode cX0_raise 10 = .ok (.aload_n 0, 1) := by decide +kernel
theorem dX0_raise_11 : decode cX0_raise 11 = .ok (.iload_n 2, 1) := by decide +kernel
theorem dX0_raise_12 : decode cX0_raise 12 = .ok (.iconst 1, 1) := by decide +kernel
theorem dX0_raise_13 : decode cX0_raise 13 = .ok (.aload_n 0, 1) := by decide +kernel
theorem dX0_raise_14 : decode cX0_raise 14 = .ok (.iload_n 2, 1) := by decide +kernel
theorem dX0_raise_15 : decode cX0_raise 15 = .ok (.iconst 1, 1) := by decide +kernel
theorem dX0_raise_16 : decode cX0_raise 16 = .ok (.invokevirtual 19, 3) := by decide +kernel
theorem dX0_raise_19 : decode cX0_raise 19 = .ok (.iload_n 1, 1) := by decide +kernel
theorem dX0_raise_20 : decode cX0_raise 20 = .ok (.iadd, 1) := by decide +kernel
theorem dX0_raise_21 : decode cX0_raise 21 = .ok (.invokevirtual 37, 3) := by decide +kernel
theorem dX0_raise_24 : decode cX0_raise 24 = .ok (.iinc 2 1, 3) := by decide +kernel
theorem dX0_raise_27 : decode cX0_raise 27 = .ok (.goto (-25), 3) := by decide +kernel
theorem dX0_raise_30 : decode cX0_raise 30 = .ok (.return_, 1) := by decide +kernel
set_option maxRecDepth 20000 in
theorem ggX0_canStretch_X0_cell : GoodIn wsX0_canStretch wsX0_cell := goodIn_r _ [6, 1, 7, 15, 16] (by decide +kernel) (by decide +kernel)
set_option maxRecDepth 20000 in
theorem gX0_canStretch_X0_cell : GoodIn wsX0_canStretch (wsV RX0 19 RX0 yX0_cell wsX0_cell) := goodIn_app (goodIn_of _ (by decide +kernel)) ggX0_canStretch_X0_cell
set_option maxRecDepth 20000 in
theorem ggX0_canStretch_X0_stretchedFrame : GoodIn wsX0_canStretch wsX0_stretchedFrame := goodIn_r _ [10] (by decide +kernel) (by decide +kernel)
set_option maxRecDepth 20000 in
theorem gX0_canStretch_X0_stretchedFrame : GoodIn wsX0_canStretch (va_wsS RX0 54 yX0_stretchedFrame wsX0_stretchedFrame) := goodIn_app (goodIn_of _ (by decide +kernel)) ggX0_canStretch_X0_stretchedFrame
set_option maxRecDepth 20000 in
theorem ggX0_canStretch_X0_isLocked : GoodIn wsX0_canStretch wsX0_isLocked := goodIn_r _ [14, 2, 3, 4, 5, 6, 1, 7, 15, 16] (by decide +kernel) (by decide +kernel)
set_option maxRecDepth 20000 in
theorem gX0_canStretch_X0_isLocked : GoodIn wsX0_canStretch (wsV RX0 23 RX0 yX0_isLocked wsX0_isLocked) := goodIn_app (goodIn_of _ (by decide +kernel)) ggX0_canStretch_X0_isLocked
theorem dX0_canStretch_0 : decode cX0_canStretch 0 = .ok (.iconst (-1), 1) := by decide +kernel
theorem dX0_canStretch_1 : decode cX0_canStretch 1 = .ok (.istore 4, 2) := by decide +kernel
theorem dX0_canStretch_3 : decode cX0_canStretch 3 = .ok (.iconst 0, 1) := by decide +kernel
theorem dX0_canStretch_4 : decode cX0_canStretch 4 = .ok (.istore 5, 2) := by decide +kernel
theorem dX0_canStretch_6 : decode cX0_canStretch 6 = .ok (.iload 5, 2) := by decide +kernel
theorem dX0_canStretch_8 : decode cX0_canStretch 8 = .ok (.aload_n 0, 1) := by decide +kernel
theorem dX0_canStretch_9 : decode cX0_canStretch 9 = .ok (.getfield 9, 3) := by decide +kernel
theorem dX0_canStretch_12 : decode cX0_canStretch 12 = .ok (.if_icmp .ge 65, 3) := by decide +kernel
theorem dX0_canStretch_15 : decode cX0_canStretch 15 = .ok (.aload_n 0, 1) := by decide +kernel
theorem dX0_canStretch_16 : decode cX0_canStretch 16 = .ok (.iload 5, 2) := by decide +kernel
theorem dX0_canStretch_18 : decode cX0_canStretch 18 = .ok (.iconst 0, 1) := by decide +kernel
theorem dX0_canStretch_19 : decode cX0_canStretch 19 = .ok (.invokevirtual 19, 3) := by decide +kernel
theorem dX0_canStretch_22 : decode cX0_canStretch 22 = .ok (.istore 6, 2) := by decide +kernel
theorem dX0_canStretch_24 : decode cX0_canStretch 24 = .ok (.iload 6, 2) := by decide +kernel
theorem dX0_canStretch_26 : decode cX0_canStretch 26 = .ok (.iload_n 1, 1) := by decide +kernel
theorem dX0_canStretch_27 : decode cX0_canStretch 27 = .ok (.iload_n 2, 1) := by decide +kernel
theorem dX0_canStretch_28 : decode cX0_canStretch 28 = .ok (.iload_n 3, 1) := by decide +kernel
theorem dX0_canStretch_29 : decode cX0_canStretch 29 = .ok (.invokestatic 54, 3) := by decide +kernel
theorem dX0_canStretch_32 : decode cX0_canStretch 32 = .ok (.istore 7, 2) := by decide +kernel
theorem dX0_canStretch_34 : decode cX0_canStretch 34 = .ok (.iload 7, 2) := by decide +kernel
theorem dX0_canStretch_36 : decode cX0_canStretch 36 = .ok (.sipush 999, 3) := by decide +kernel
theorem dX0_canStretch_39 : decode cX0_canStretch 39 = .ok (.if_icmp .gt 26, 3) := by decide +kernel
theorem dX0_canStretch_42 : decode cX0_canStretch 42 = .ok (.iload 7, 2) := by decide +kernel
theorem dX0_canStretch_44 : decode cX0_canStretch 44 = .ok (.iload 4, 2) := by decide +kernel
theorem dX0_canStretch_46 : decode cX0_canStretch 46 = .ok (.if_icmp .eq 19, 3) := by decide +kernel
theorem dX0_canStretch_49 : decode cX0_canStretch 49 = .ok (.aload_n 0, 1) := by decide +kernel
theorem dX0_canStretch_50 : decode cX0_canStretch 50 = .ok (.iload 5, 2) := by decide +kernel
theorem dX0_canStretch_52 : decode cX0_canStretch 52 = .ok (.invokevirtual 23, 3) := by decide +kernel
theorem dX0_canStretch_55 : decode cX0_canStretch 55 = .ok (.ifCond .eq 12, 3) := by decide +kernel
theorem dX0_canStretch_58 : decode cX0_canStretch 58 = .ok (.iload 7, 2) := by decide +kernel
theorem dX0_canStretch_60 : decode cX0_canStretch 60 = .ok (.iload 6, 2) := by decide +kernel
theorem dX0_canStretch_62 : decode cX0_canStretch 62 = .ok (.if_icmp .eq 5, 3) := by decide +kernel
theorem dX0_canStretch_65 : decode cX0_canStretch 65 = .ok (.iconst 0, 1) := by decide +kernel
theorem dX0_canStretch_66 : decode cX0_canStretch 66 = .ok (.ireturn, 1) := by decide +kernel
theorem dX0_canStretch_67 : decode cX0_canStretch 67 = .ok (.iload 7, 2) := by decide +kernel
theorem dX0_canStretch_69 : decode cX0_canStretch 69 = .ok (.istore 4, 2) := by decide +kernel
theorem dX0_canStretch_71 : decode cX0_canStretch 71 = .ok (.iinc 5 1, 3) := by decide +kernel
theorem dX0_canStretch_74 : decode cX0_canStretch 74 = .ok (.goto (-68), 3) := by decide +kernel
theorem dX0_canStretch_77 : decode cX0_canStretch 77 = .ok (.iconst 1, 1) := by decide +kernel
theorem dX0_canStretch_78 : decode cX0_canStretch 78 = .ok (.ireturn, 1) := by decide +kernel
set_option maxRecDepth 20000 in
theorem ggX0_stretchSpan_X0_cell : GoodIn wsX0_stretchSpan wsX0_cell := goodIn_r _ [6, 1, 7, 15, 16] (by decide +kernel) (by decide +kernel)
set_option maxRecDepth 20000 in
theorem gX0_stretchSpan_X0_cell : GoodIn wsX0_stretchSpan (wsV RX0 19 RX0 yX0_cell wsX0_cell) := goodIn_app (goodIn_of _ (by decide +kernel)) ggX0_stretchSpan_X0_cell
set_option maxRecDepth 20000 in
theorem ggX0_stretchSpan_X0_stretchedFrame : GoodIn wsX0_stretchSpan wsX0_stretchedFrame := goodIn_r _ [10] (by decide +kernel) (by decide +kernel)
set_option maxRecDepth 20000 in
theorem gX0_stretchSpan_X0_stretchedFrame : GoodIn wsX0_stretchSpan (va_wsS RX0 54 yX0_stretchedFrame wsX0_stretchedFrame) := goodIn_app (goodIn_of _ (by decide +kernel)) ggX0_stretchSpan_X0_stretchedFrame
set_option maxRecDepth 20000 in
theorem ggX0_stretchSpan_X0_put : GoodIn wsX0_stretchSpan wsX0_put := goodIn_r _ [14, 1, 7, 15, 16] (by decide +kernel) (by decide +kernel)
set_option maxRecDepth 20000 in
theorem gX0_stretchSpan_X0_put : GoodIn wsX0_stretchSpan (wsV RX0 37 RX0 yX0_put wsX0_put) := goodIn_app (goodIn_of _ (by decide +kernel)) ggX0_stretchSpan_X0_put
theorem dX0_stretchSpan_0 : decode cX0_stretchSpan 0 = .ok (.iconst 0, 1) := by decide +kernel
theorem dX0_stretchSpan_1 : decode cX0_stretchSpan 1 = .ok (.istore 4, 2) := by decide +kernel
theorem dX0_stretchSpan_3 : decode cX0_stretchSpan 3 = .ok (.iconst 0, 1) := by decide +kernel
theorem dX0_stretchSpan_4 : decode cX0_stretchSpan 4 = .ok (.istore 5, 2) := by decide +kernel
theorem dX0_stretchSpan_6 : decode cX0_stretchSpan 6 = .ok (.iload 5, 2) := by decide +kernel
theorem dX0_stretchSpan_8 : decode cX0_stretchSpan 8 = .ok (.aload_n 0, 1) := by decide +kernel
theorem dX0_stretchSpan_9 : decode cX0_stretchSpan 9 = .ok (.getfield 9, 3) := by decide +kernel
theorem dX0_stretchSpan_12 : decode cX0_stretchSpan 12 = .ok (.if_icmp .ge 47, 3) := by decide +kernel
theorem dX0_stretchSpan_15 : decode cX0_stretchSpan 15 = .ok (.aload_n 0, 1) := by decide +kernel
theorem dX0_stretchSpan_16 : decode cX0_stretchSpan 16 = .ok (.iload 5, 2) := by decide +kernel
theorem dX0_stretchSpan_18 : decode cX0_stretchSpan 18 = .ok (.iconst 0, 1) := by decide +kernel
theorem dX0_stretchSpan_19 : decode cX0_stretchSpan 19 = .ok (.invokevirtual 19, 3) := by decide +kernel
theorem dX0_stretchSpan_22 : decode cX0_stretchSpan 22 = .ok (.istore 6, 2) := by decide +kernel
theorem dX0_stretchSpan_24 : decode cX0_stretchSpan 24 = .ok (.iload 6, 2) := by decide +kernel
theorem dX0_stretchSpan_26 : decode cX0_stretchSpan 26 = .ok (.iload_n 1, 1) := by decide +kernel
theorem dX0_stretchSpan_27 : decode cX0_stretchSpan 27 = .ok (.iload_n 2, 1) := by decide +kernel
theorem dX0_stretchSpan_28 : decode cX0_stretchSpan 28 = .ok (.iload_n 3, 1) := by decide +kernel
theorem dX0_stretchSpan_29 : decode cX0_stretchSpan 29 = .ok (.invokestatic 54, 3) := by decide +kernel
theorem dX0_stretchSpan_32 : decode cX0_stretchSpan 32 = .ok (.istore 7, 2) := by decide +kernel
theorem dX0_stretchSpan_34 : decode cX0_stretchSpan 34 = .ok (.iload 7, 2) := by decide +kernel
theorem dX0_stretchSpan_36 : decode cX0_stretchSpan 36 = .ok (.iload 6, 2) := by decide +kernel
theorem dX0_stretchSpan_38 : decode cX0_stretchSpan 38 = .ok (.if_icmp .eq 6, 3) := by decide +kernel
theorem dX0_stretchSpan_41 : decode cX0_stretchSpan 41 = .ok (.iinc 4 1, 3) := by decide +kernel
theorem dX0_stretchSpan_44 : decode cX0_stretchSpan 44 = .ok (.aload_n 0, 1) := by decide +kernel
theorem dX0_stretchSpan_45 : decode cX0_stretchSpan 45 = .ok (.iload 5, 2) := by decide +kernel
theorem dX0_stretchSpan_47 : decode cX0_stretchSpan 47 = .ok (.iconst 0, 1) := by decide +kernel
theorem dX0_stretchSpan_48 : decode cX0_stretchSpan 48 = .ok (.iload 7, 2) := by decide +kernel
theorem dX0_stretchSpan_50 : decode cX0_stretchSpan 50 = .ok (.invokevirtual 37, 3) := by decide +kernel
theorem dX0_stretchSpan_53 : decode cX0_stretchSpan 53 = .ok (.iinc 5 1, 3) := by decide +kernel
theorem dX0_stretchSpan_56 : decode cX0_stretchSpan 56 = .ok (.goto (-50), 3) := by decide +kernel
theorem dX0_stretchSpan_59 : decode cX0_stretchSpan 59 = .ok (.iload 4, 2) := by decide +kernel
theorem dX0_stretchSpan_61 : decode cX0_stretchSpan 61 = .ok (.ireturn, 1) := by decide +kernel
theorem dX0_stretchedFrame_0 : decode cX0_stretchedFrame 0 = .ok (.iload_n 0, 1) := by decide +kernel
theorem dX0_stretchedFrame_1 : decode cX0_stretchedFrame 1 = .ok (.iload_n 1, 1) := by decide +kernel
theorem dX0_stretchedFrame_2 : decode cX0_stretchedFrame 2 = .ok (.if_icmp .ge 5, 3) := by decide +kernel
theorem dX0_stretchedFrame_5 : decode cX0_stretchedFrame 5 = .ok (.iload_n 0, 1) := by decide +kernel
theorem dX0_stretchedFrame_6 : decode cX0_stretchedFrame 6 = .ok (.ireturn, 1) := by decide +kernel
theorem dX0_stretchedFrame_7 : decode cX0_stretchedFrame 7 = .ok (.iload_n 0, 1) := by decide +kernel
theorem dX0_stretchedFrame_8 : decode cX0_stretchedFrame 8 = .ok (.iload_n 2, 1) := by decide +kernel
theorem dX0_stretchedFrame_9 : decode cX0_stretchedFrame 9 = .ok (.if_icmp .gt 14, 3) := by decide +kernel
theorem dX0_stretchedFrame_12 : decode cX0_stretchedFrame 12 = .ok (.iload_n 1, 1) := by decide +kernel
theorem dX0_stretchedFrame_13 : decode cX0_stretchedFrame 13 = .ok (.iload_n 0, 1) := by decide +kernel
theorem dX0_stretchedFrame_14 : decode cX0_stretchedFrame 14 = .ok (.iload_n 1, 1) := by decide +kernel
theorem dX0_stretchedFrame_15 : decode cX0_stretchedFrame 15 = .ok (.isub, 1) := by decide +kernel
theorem dX0_stretchedFrame_16 : decode cX0_stretchedFrame 16 = .ok (.iload_n 3, 1) := by decide +kernel
theorem dX0_stretchedFrame_17 : decode cX0_stretchedFrame 17 = .ok (.imul, 1) := by decide +kernel
theorem dX0_stretchedFrame_18 : decode cX0_stretchedFrame 18 = .ok (.bipush 100, 2) := by decide +kernel
theorem dX0_stretchedFrame_20 : decode cX0_stretchedFrame 20 = .ok (.idiv, 1) := by decide +kernel
theorem dX0_stretchedFrame_21 : decode cX0_stretchedFrame 21 = .ok (.iadd, 1) := by decide +kernel
theorem dX0_stretchedFrame_22 : decode cX0_stretchedFrame 22 = .ok (.ireturn, 1) := by decide +kernel
theorem dX0_stretchedFrame_23 : decode cX0_stretchedFrame 23 = .ok (.iload_n 0, 1) := by decide +kernel
theorem dX0_stretchedFrame_24 : decode cX0_stretchedFrame 24 = .ok (.iload_n 2, 1) := by decide +kernel
theorem dX0_stretchedFrame_25 : decode cX0_stretchedFrame 25 = .ok (.iload_n 1, 1) := by decide +kernel
theorem dX0_stretchedFrame_26 : decode cX0_stretchedFrame 26 = .ok (.isub, 1) := by decide +kernel
theorem dX0_stretchedFrame_27 : decode cX0_stretchedFrame 27 = .ok (.iload_n 3, 1) := by decide +kernel
theorem dX0_stretchedFrame_28 : decode cX0_stretchedFrame 28 = .ok (.imul, 1) := by decide +kernel
theorem dX0_stretchedFrame_29 : decode cX0_stretchedFrame 29 = .ok (.bipush 100, 2) := by decide +kernel
theorem dX0_stretchedFrame_31 : decode cX0_stretchedFrame 31 = .ok (.idiv, 1) := by decide +kernel
theorem dX0_stretchedFrame_32 : decode cX0_stretchedFrame 32 = .ok (.iadd, 1) := by decide +kernel
theorem dX0_stretchedFrame_33 : decode cX0_stretchedFrame 33 = .ok (.iload_n 2, 1) := by decide +kernel
theorem dX0_stretchedFrame_34 : decode cX0_stretchedFrame 34 = .ok (.iload_n 1, 1) := by decide +kernel
theorem dX0_stretchedFrame_35 : decode cX0_stretchedFrame 35 = .ok (.isub, 1) := by decide +kernel
theorem dX0_stretchedFrame_36 : decode cX0_stretchedFrame 36 = .ok (.isub, 1) := by decide +kernel
theorem dX0_stretchedFrame_37 : decode cX0_stretchedFrame 37 = .ok (.ireturn, 1) := by decide +kernel
set_option maxRecDepth 20000 in
theorem ggX0_tangentOf_X0_cell : GoodIn wsX0_tangentOf wsX0_cell := goodIn_r _ [6, 1, 7, 11, 12] (by decide +kernel) (by decide +kernel)
set_option maxRecDepth 20000 in
theorem gX0_tangentOf_X0_cell : GoodIn wsX0_tangentOf (wsV RX0 19 RX0 yX0_cell wsX0_cell) := goodIn_app (goodIn_of _ (by decide +kernel)) ggX0_tangentOf_X0_cell
set_option maxRecDepth 20000 in
theorem ggX0_tangentOf_X0_isTurn : GoodIn wsX0_tangentOf wsX0_isTurn := goodIn_r _ [10] (by decide +kernel) (by decide +kernel)
set_option maxRecDepth 20000 in
theorem gX0_tangentOf_X0_isTurn : GoodIn wsX0_tangentOf (va_wsS RX0 58 yX0_isTurn wsX0_isTurn) := goodIn_app (goodIn_of _ (by decide +kernel)) ggX0_tangentOf_X0_isTurn
theorem dX0_tangentOf_0 : decode cX0_tangentOf 0 = .ok (.aload_n 0, 1) := by decide +kernel
theorem dX0_tangentOf_1 : decode cX0_tangentOf 1 = .ok (.iload_n 1, 1) := by decide +kernel
theorem dX0_tangentOf_2 : decode cX0_tangentOf 2 = .ok (.iconst 3, 1) := by decide +kernel
theorem dX0_tangentOf_3 : decode cX0_tangentOf 3 = .ok (.invokevirtual 19, 3) := by decide +kernel
theorem dX0_tangentOf_6 : decode cX0_tangentOf 6 = .ok (.istore_n 2, 1) := by decide +kernel
theorem dX0_tangentOf_7 : decode cX0_tangentOf 7 = .ok (.iload_n 2, 1) := by decide +kernel
theorem dX0_tangentOf_8 : decode cX0_tangentOf 8 = .ok (.ifCond .ne 10, 3) := by decide +kernel
theorem dX0_tangentOf_11 : decode cX0_tangentOf 11 = .ok (.aload_n 0, 1) := by decide +kernel
theorem dX0_tangentOf_12 : decode cX0_tangentOf 12 = .ok (.iload_n 1, 1) := by decide +kernel
theorem dX0_tangentOf_13 : decode cX0_tangentOf 13 = .ok (.iconst 4, 1) := by decide +kernel
theorem dX0_tangentOf_14 : decode cX0_tangentOf 14 = .ok (.invokevirtual 19, 3) := by decide +kernel
theorem dX0_tangentOf_17 : decode cX0_tangentOf 17 = .ok (.ireturn, 1) := by decide +kernel
theorem dX0_tangentOf_18 : decode cX0_tangentOf 18 = .ok (.aload_n 0, 1) := by decide +kernel
theorem dX0_tangentOf_19 : decode cX0_tangentOf 19 = .ok (.iload_n 1, 1) := by decide +kernel
theorem dX0_tangentOf_20 : decode cX0_tangentOf 20 = .ok (.iconst 1, 1) := by decide +kernel
theorem dX0_tangentOf_21 : decode cX0_tangentOf 21 = .ok (.iadd, 1) := by decide +kernel
theorem dX0_tangentOf_22 : decode cX0_tangentOf 22 = .ok (.iconst 0, 1) := by decide +kernel
theorem dX0_tangentOf_23 : decode cX0_tangentOf 23 = .ok (.invokevirtual 19, 3) := by decide +kernel
theorem dX0_tangentOf_26 : decode cX0_tangentOf 26 = .ok (.aload_n 0, 1) := by decide +kernel
theorem dX0_tangentOf_27 : decode cX0_tangentOf 27 = .ok (.iload_n 1, 1) := by decide +kernel
theorem dX0_tangentOf_28 : decode cX0_tangentOf 28 = .ok (.iconst 1, 1) := by decide +kernel
theorem dX0_tangentOf_29 : decode cX0_tangentOf 29 = .ok (.isub, 1) := by decide +kernel
theorem dX0_tangentOf_30 : decode cX0_tangentOf 30 = .ok (.iconst 0, 1) := by decide +kernel
theorem dX0_tangentOf_31 : decode cX0_tangentOf 31 = .ok (.invokevirtual 19, 3) := by decide +kernel
theorem dX0_tangentOf_34 : decode cX0_tangentOf 34 = .ok (.isub, 1) := by decide +kernel
theorem dX0_tangentOf_35 : decode cX0_tangentOf 35 = .ok (.istore_n 3, 1) := by decide +kernel
theorem dX0_tangentOf_36 : decode cX0_tangentOf 36 = .ok (.iload_n 1, 1) := by decide +kernel
theorem dX0_tangentOf_37 : decode cX0_tangentOf 37 = .ok (.ifCond .le 17, 3) := by decide +kernel
theorem dX0_tangentOf_40 : decode cX0_tangentOf 40 = .ok (.iload_n 1, 1) := by decide +kernel
theorem dX0_tangentOf_41 : decode cX0_tangentOf 41 = .ok (.aload_n 0, 1) := by decide +kernel
theorem dX0_tangentOf_42 : decode cX0_tangentOf 42 = .ok (.getfield 9, 3) := by decide +kernel
theorem dX0_tangentOf_45 : decode cX0_tangentOf 45 = .ok (.iconst 1, 1) := by decide +kernel
theorem dX0_tangentOf_46 : decode cX0_tangentOf 46 = .ok (.isub, 1) := by decide +kernel
theorem dX0_tangentOf_47 : decode cX0_tangentOf 47 = .ok (.if_icmp .ge 7, 3) := by decide +kernel
theorem dX0_tangentOf_50 : decode cX0_tangentOf 50 = .ok (.iload_n 3, 1) := by decide +kernel
theorem dX0_tangentOf_51 : decode cX0_tangentOf 51 = .ok (.ifCond .gt 5, 3) := by decide +kernel
theorem dX0_tangentOf_54 : decode cX0_tangentOf 54 = .ok (.iconst 0, 1) := by decide +kernel
theorem dX0_tangentOf_55 : decode cX0_tangentOf 55 = .ok (.ireturn, 1) := by decide +kernel
theorem dX0_tangentOf_56 : decode cX0_tangentOf 56 = .ok (.aload_n 0, 1) := by decide +kernel
theorem dX0_tangentOf_57 : decode cX0_tangentOf 57 = .ok (.iload_n 1, 1) := by decide +kernel
theorem dX0_tangentOf_58 : decode cX0_tangentOf 58 = .ok (.iconst 1, 1) := by decide +kernel
theorem dX0_tangentOf_59 : decode cX0_tangentOf 59 = .ok (.isub, 1) := by decide +kernel
theorem dX0_tangentOf_60 : decode cX0_tangentOf 60 = .ok (.iconst 1, 1) := by decide +kernel
theorem dX0_tangentOf_61 : decode cX0_tangentOf 61 = .ok (.invokevirtual 19, 3) := by decide +kernel
theorem dX0_tangentOf_64 : decode cX0_tangentOf 64 = .ok (.istore 4, 2) := by decide +kernel
theorem dX0_tangentOf_66 : decode cX0_tangentOf 66 = .ok (.aload_n 0, 1) := by decide +kernel
theorem dX0_tangentOf_67 : decode cX0_tangentOf 67 = .ok (.iload_n 1, 1) := by decide +kernel
theorem dX0_tangentOf_68 : decode cX0_tangentOf 68 = .ok (.iconst 1, 1) := by decide +kernel
theorem dX0_tangentOf_69 : decode cX0_tangentOf 69 = .ok (.iadd, 1) := by decide +kernel
theorem dX0_tangentOf_70 : decode cX0_tangentOf 70 = .ok (.iconst 1, 1) := by decide +kernel
theorem dX0_tangentOf_71 : decode cX0_tangentOf 71 = .ok (.invokevirtual 19, 3) := by decide +kernel
theorem dX0_tangentOf_74 : decode cX0_tangentOf 74 = .ok (.istore 5, 2) := by decide +kernel
theorem dX0_tangentOf_76 : decode cX0_tangentOf 76 = .ok (.iload_n 2, 1) := by decide +kernel
theorem dX0_tangentOf_77 : decode cX0_tangentOf 77 = .ok (.iconst 2, 1) := by decide +kernel
theorem dX0_tangentOf_78 : decode cX0_tangentOf 78 = .ok (.if_icmp .ne 21, 3) := by decide +kernel
theorem dX0_tangentOf_81 : decode cX0_tangentOf 81 = .ok (.iload 4, 2) := by decide +kernel
theorem dX0_tangentOf_83 : decode cX0_tangentOf 83 = .ok (.aload_n 0, 1) := by decide +kernel
theorem dX0_tangentOf_84 : decode cX0_tangentOf 84 = .ok (.iload_n 1, 1) := by decide +kernel
theorem dX0_tangentOf_85 : decode cX0_tangentOf 85 = .ok (.iconst 1, 1) := by decide +kernel
theorem dX0_tangentOf_86 : decode cX0_tangentOf 86 = .ok (.invokevirtual 19, 3) := by decide +kernel
theorem dX0_tangentOf_89 : decode cX0_tangentOf 89 = .ok (.iload 5, 2) := by decide +kernel
theorem dX0_tangentOf_91 : decode cX0_tangentOf 91 = .ok (.invokestatic 58, 3) := by decide +kernel
theorem dX0_tangentOf_94 : decode cX0_tangentOf 94 = .ok (.ifCond .eq 5, 3) := by decide +kernel
theorem dX0_tangentOf_97 : decode cX0_tangentOf 97 = .ok (.iconst 0, 1) := by decide +kernel
theorem dX0_tangentOf_98 : decode cX0_tangentOf 98 = .ok (.ireturn, 1) := by decide +kernel
theorem dX0_tangentOf_99 : decode cX0_tangentOf 99 = .ok (.sipush 1000, 3) := by decide +kernel
theorem dX0_tangentOf_102 : decode cX0_tangentOf 102 = .ok (.iload 5, 2) := by decide +kernel
theorem dX0_tangentOf_104 : decode cX0_tangentOf 104 = .ok (.iload 4, 2) := by decide +kernel
theorem dX0_tangentOf_106 : decode cX0_tangentOf 106 = .ok (.isub, 1) := by decide +kernel
theorem dX0_tangentOf_107 : decode cX0_tangentOf 107 = .ok (.imul, 1) := by decide +kernel
theorem dX0_tangentOf_108 : decode cX0_tangentOf 108 = .ok (.iload_n 3, 1) := by decide +kernel
theorem dX0_tangentOf_109 : decode cX0_tangentOf 109 = .ok (.idiv, 1) := by decide +kernel
theorem dX0_tangentOf_110 : decode cX0_tangentOf 110 = .ok (.ireturn, 1) := by decide +kernel
theorem dX0_isTurn_0 : decode cX0_isTurn 0 = .ok (.iload_n 0, 1) := by decide +kernel
theorem dX0_isTurn_1 : decode cX0_isTurn 1 = .ok (.iload_n 1, 1) := by decide +kernel
theorem dX0_isTurn_2 : decode cX0_isTurn 2 = .ok (.if_icmp .gt 8, 3) := by decide +kernel
theorem dX0_isTurn_5 : decode cX0_isTurn 5 = .ok (.iload_n 2, 1) := by decide +kernel
theorem dX0_isTurn_6 : decode cX0_isTurn 6 = .ok (.iload_n 1, 1) := by decide +kernel
theorem dX0_isTurn_7 : decode cX0_isTurn 7 = .ok (.if_icmp .le 13, 3) := by decide +kernel
theorem dX0_isTurn_10 : decode cX0_isTurn 10 = .ok (.iload_n 0, 1) := by decide +kernel
theorem dX0_isTurn_11 : decode cX0_isTurn 11 = .ok (.iload_n 1, 1) := by decide +kernel
theorem dX0_isTurn_12 : decode cX0_isTurn 12 = .ok (.if_icmp .lt 12, 3) := by decide +kernel
theorem dX0_isTurn_15 : decode cX0_isTurn 15 = .ok (.iload_n 2, 1) := by decide +kernel
theorem dX0_isTurn_16 : decode cX0_isTurn 16 = .ok (.iload_n 1, 1) := by decide +kernel
theorem dX0_isTurn_17 : decode cX0_isTurn 17 = .ok (.if_icmp .lt 7, 3) := by decide +kernel
theorem dX0_isTurn_20 : decode cX0_isTurn 20 = .ok (.iconst 1, 1) := by decide +kernel
theorem dX0_isTurn_21 : decode cX0_isTurn 21 = .ok (.goto 4, 3) := by decide +kernel
theorem dX0_isTurn_24 : decode cX0_isTurn 24 = .ok (.iconst 0, 1) := by decide +kernel
theorem dX0_isTurn_25 : decode cX0_isTurn 25 = .ok (.ireturn, 1) := by decide +kernel
set_option maxRecDepth 20000 in
theorem ggX0_valueAt_X0_countUpTo : GoodIn wsX0_valueAt wsX0_countUpTo := goodIn_r _ [5, 6, 7, 8, 9, 4, 10, 11, 36, 37] (by decide +kernel) (by decide +kernel)
set_option maxRecDepth 20000 in
theorem gX0_valueAt_X0_countUpTo : GoodIn wsX0_valueAt (wsV RX0 27 RX0 yX0_countUpTo wsX0_countUpTo) := goodIn_app (goodIn_of _ (by decide +kernel)) ggX0_valueAt_X0_countUpTo
set_option maxRecDepth 20000 in
theorem ggX0_valueAt_X0_valueBehind : GoodIn wsX0_valueAt wsX0_valueBehind := goodIn_r _ [15, 16, 17, 18, 19, 6, 20, 21, 22, 23, 24, 7, 8, 9, 4, 10, 11, 25, 26, 27, 28, 29, 30, 31, 32, 33, 34, 35, 36, 37] (by decide +kernel) (by decide +kernel)
set_option maxRecDepth 20000 in
theorem gX0_valueAt_X0_valueBehind : GoodIn wsX0_valueAt (wsV RX0 62 RX0 yX0_valueBehind wsX0_valueBehind) := goodIn_app (goodIn_of _ (by decide +kernel)) ggX0_valueAt_X0_valueBehind
theorem dX0_valueAt_0 : decode cX0_valueAt 0 = .ok (.aload_n 0, 1) := by decide +kernel
theorem dX0_valueAt_1 : decode cX0_valueAt 1 = .ok (.aload_n 0, 1) := by decide +kernel
theorem dX0_valueAt_2 : decode cX0_valueAt 2 = .ok (.iload_n 1, 1) := by decide +kernel
theorem dX0_valueAt_3 : decode cX0_valueAt 3 = .ok (.invokevirtual 27, 3) := by decide +kernel
theorem dX0_valueAt_6 : decode cX0_valueAt 6 = .ok (.iconst 1, 1) := by decide +kernel
theorem dX0_valueAt_7 : decode cX0_valueAt 7 = .ok (.isub, 1) := by decide +kernel
theorem dX0_valueAt_8 : decode cX0_valueAt 8 = .ok (.iload_n 1, 1) := by decide +kernel
theorem dX0_valueAt_9 : decode cX0_valueAt 9 = .ok (.invokevirtual 62, 3) := by decide +kernel
theorem dX0_valueAt_12 : decode cX0_valueAt 12 = .ok (.ireturn, 1) := by decide +kernel
set_option maxRecDepth 20000 in
theorem ggX0_bake_X0_countUpTo : GoodIn wsX0_bake wsX0_countUpTo := goodIn_r _ [6, 1, 7, 8, 9, 5, 10, 11, 36, 37] (by decide +kernel) (by decide +kernel)
set_option maxRecDepth 20000 in
theorem gX0_bake_X0_countUpTo : GoodIn wsX0_bake (wsV RX0 27 RX0 yX0_countUpTo wsX0_countUpTo) := goodIn_app (goodIn_of _ (by decide +kernel)) ggX0_bake_X0_countUpTo
set_option maxRecDepth 20000 in
theorem ggX0_bake_X0_cell : GoodIn wsX0_bake wsX0_cell := goodIn_r _ [10, 1, 11, 36, 37] (by decide +kernel) (by decide +kernel)
set_option maxRecDepth 20000 in
theorem gX0_bake_X0_cell : GoodIn wsX0_bake (wsV RX0 19 RX0 yX0_cell wsX0_cell) := goodIn_app (goodIn_of _ (by decide +kernel)) ggX0_bake_X0_cell
set_option maxRecDepth 20000 in
theorem ggX0_bake_X0_valueBehind : GoodIn wsX0_bake wsX0_valueBehind := goodIn_r _ [15, 16, 17, 18, 19, 1, 20, 21, 22, 23, 24, 7, 8, 9, 5, 10, 11, 25, 26, 27, 28, 29, 30, 31, 32, 33, 34, 35, 36, 37] (by decide +kernel) (by decide +kernel)
set_option maxRecDepth 20000 in
theorem gX0_bake_X0_valueBehind : GoodIn wsX0_bake (wsV RX0 62 RX0 yX0_valueBehind wsX0_valueBehind) := goodIn_app (goodIn_of _ (by decide +kernel)) ggX0_bake_X0_valueBehind
theorem dX0_bake_0 : decode cX0_bake 0 = .ok (.iload_n 2, 1) := by decide +kernel
theorem dX0_bake_1 : decode cX0_bake 1 = .ok (.ifCond .lt 9, 3) := by decide +kernel
theorem dX0_bake_4 : decode cX0_bake 4 = .ok (.iload_n 3, 1) := by decide +kernel
theorem dX0_bake_5 : decode cX0_bake 5 = .ok (.aload_n 1, 1) := by decide +kernel
theorem dX0_bake_6 : decode cX0_bake 6 = .ok (.arraylength, 1) := by decide +kernel
theorem dX0_bake_7 : decode cX0_bake 7 = .ok (.if_icmp .lt 4, 3) := by decide +kernel
theorem dX0_bake_10 : decode cX0_bake 10 = .ok (.return_, 1) := by decide +kernel
theorem dX0_bake_11 : decode cX0_bake 11 = .ok (.aload_n 0, 1) := by decide +kernel
theorem dX0_bake_12 : decode cX0_bake 12 = .ok (.iload_n 2, 1) := by decide +kernel
theorem dX0_bake_13 : decode cX0_bake 13 = .ok (.invokevirtual 27, 3) := by decide +kernel
theorem dX0_bake_16 : decode cX0_bake 16 = .ok (.iconst 1, 1) := by decide +kernel
theorem dX0_bake_17 : decode cX0_bake 17 = .ok (.isub, 1) := by decide +kernel
theorem dX0_bake_18 : decode cX0_bake 18 = .ok (.istore 4, 2) := by decide +kernel
theorem dX0_bake_20 : decode cX0_bake 20 = .ok (.iload_n 2, 1) := by decide +kernel
theorem dX0_bake_21 : decode cX0_bake 21 = .ok (.istore 5, 2) := by decide +kernel
theorem dX0_bake_23 : decode cX0_bake 23 = .ok (.iload 5, 2) := by decide +kernel
theorem dX0_bake_25 : decode cX0_bake 25 = .ok (.iload_n 3, 1) := by decide +kernel
theorem dX0_bake_26 : decode cX0_bake 26 = .ok (.if_icmp .gt 49, 3) := by decide +kernel
theorem dX0_bake_29 : decode cX0_bake 29 = .ok (.iload 4, 2) := by decide +kernel
theorem dX0_bake_31 : decode cX0_bake 31 = .ok (.iconst 1, 1) := by decide +kernel
theorem dX0_bake_32 : decode cX0_bake 32 = .ok (.iadd, 1) := by decide +kernel
theorem dX0_bake_33 : decode cX0_bake 33 = .ok (.aload_n 0, 1) := by decide +kernel
theorem dX0_bake_34 : decode cX0_bake 34 = .ok (.getfield 9, 3) := by decide +kernel
theorem dX0_bake_37 : decode cX0_bake 37 = .ok (.if_icmp .ge 20, 3) := by decide +kernel
theorem dX0_bake_40 : decode cX0_bake 40 = .ok (.aload_n 0, 1) := by decide +kernel
theorem dX0_bake_41 : decode cX0_bake 41 = .ok (.iload 4, 2) := by decide +kernel
theorem dX0_bake_43 : decode cX0_bake 43 = .ok (.iconst 1, 1) := by decide +kernel
theorem dX0_bake_44 : decode cX0_bake 44 = .ok (.iadd, 1) := by decide +kernel
theorem dX0_bake_45 : decode cX0_bake 45 = .ok (.iconst 0, 1) := by decide +kernel
theorem dX0_bake_46 : decode cX0_bake 46 = .ok (.invokevirtual 19, 3) := by decide +kernel
theorem dX0_bake_49 : decode cX0_bake 49 = .ok (.iload 5, 2) := by decide +kernel
theorem dX0_bake_51 : decode cX0_bake 51 = .ok (.if_icmp .gt 6, 3) := by decide +kernel
theorem dX0_bake_54 : decode cX0_bake 54 = .ok (.iinc 4 1, 3) := by decide +kernel
theorem dX0_bake_57 : decode cX0_bake 57 = .ok (.aload_n 1, 1) := by decide +kernel
theorem dX0_bake_58 : decode cX0_bake 58 = .ok (.iload 5, 2) := by decide +kernel
theorem dX0_bake_60 : decode cX0_bake 60 = .ok (.aload_n 0, 1) := by decide +kernel
theorem dX0_bake_61 : decode cX0_bake 61 = .ok (.iload 4, 2) := by decide +kernel
theorem dX0_bake_63 : decode cX0_bake 63 = .ok (.iload 5, 2) := by decide +kernel
theorem dX0_bake_65 : decode cX0_bake 65 = .ok (.invokevirtual 62, 3) := by decide +kernel
theorem dX0_bake_68 : decode cX0_bake 68 = .ok (.iastore, 1) := by decide +kernel
theorem dX0_bake_69 : decode cX0_bake 69 = .ok (.iinc 5 1, 3) := by decide +kernel
theorem dX0_bake_72 : decode cX0_bake 72 = .ok (.goto (-49), 3) := by decide +kernel
theorem dX0_bake_75 : decode cX0_bake 75 = .ok (.return_, 1) := by decide +kernel
set_option maxRecDepth 20000 in
theorem ggX0_valueBehind_X0_cell : GoodIn wsX0_valueBehind wsX0_cell := goodIn_r _ [15, 5, 16, 28, 29] (by decide +kernel) (by decide +kernel)
set_option maxRecDepth 20000 in
theorem gX0_valueBehind_X0_cell : GoodIn wsX0_valueBehind (wsV RX0 19 RX0 yX0_cell wsX0_cell) := goodIn_app (goodIn_of _ (by decide +kernel)) ggX0_valueBehind_X0_cell
set_option maxRecDepth 20000 in
theorem ggX0_valueBehind_X0_tangentOf : GoodIn wsX0_valueBehind wsX0_tangentOf := goodIn_r _ [20, 5, 11, 12, 13, 14, 15, 16, 21, 22, 23, 28, 29] (by decide +kernel) (by decide +kernel)
set_option maxRecDepth 20000 in
theorem gX0_valueBehind_X0_tangentOf : GoodIn wsX0_valueBehind (wsV RX0 78 RX0 yX0_tangentOf wsX0_tangentOf) := goodIn_app (goodIn_of _ (by decide +kernel)) ggX0_valueBehind_X0_tangentOf
set_option maxRecDepth 20000 in
theorem ggX0_valueBehind_X0_riseByTangents : GoodIn wsX0_valueBehind wsX0_riseByTangents := goodIn_r _ [26, 8, 9, 27, 7, 6, 10] (by decide +kernel) (by decide +kernel)
set_option maxRecDepth 20000 in
theorem gX0_valueBehind_X0_riseByTangents : GoodIn wsX0_valueBehind (va_wsS RX0 81 yX0_riseByTangents wsX0_riseByTangents) := goodIn_app (goodIn_of _ (by decide +kernel)) ggX0_valueBehind_X0_riseByTangents
theorem dX0_valueBehind_0 : decode cX0_valueBehind 0 = .ok (.aload_n 0, 1) := by decide +kernel
theorem dX0_valueBehind_1 : decode cX0_valueBehind 1 = .ok (.iload_n 1, 1) := by decide +kernel
theorem dX0_valueBehind_2 : decode cX0_valueBehind 2 = .ok (.iconst 0, 1) := by decide +kernel
theorem dX0_valueBehind_3 : decode cX0_valueBehind 3 = .ok (.invokestatic 65, 3) := by decide +kernel
theorem dX0_valueBehind_6 : decode cX0_valueBehind 6 = .ok (.iconst 1, 1) := by decide +kernel
theorem dX0_valueBehind_7 : decode cX0_valueBehind 7 = .ok (.invokevirtual 19, 3) := by decide +kernel
theorem dX0_valueBehind_10 : decode cX0_valueBehind 10 = .ok (.istore_n 3, 1) := by decide +kernel
theorem dX0_valueBehind_11 : decode cX0_valueBehind 11 = .ok (.aload_n 0, 1) := by decide +kernel
theorem dX0_valueBehind_12 : decode cX0_valueBehind 12 = .ok (.iload_n 1, 1) := by decide +kernel
theorem dX0_valueBehind_13 : decode cX0_valueBehind 13 = .ok (.iconst 1, 1) := by decide +kernel
theorem dX0_valueBehind_14 : decode cX0_valueBehind 14 = .ok (.iadd, 1) := by decide +kernel
theorem dX0_valueBehind_15 : decode cX0_valueBehind 15 = .ok (.iconst 0, 1) := by decide +kernel
theorem dX0_valueBehind_16 : decode cX0_valueBehind 16 = .ok (.invokevirtual 19, 3) := by decide +kernel
theorem dX0_valueBehind_19 : decode cX0_valueBehind 19 = .ok (.aload_n 0, 1) := by decide +kernel
theorem dX0_valueBehind_20 : decode cX0_valueBehind 20 = .ok (.iload_n 1, 1) := by decide +kernel
theorem dX0_valueBehind_21 : decode cX0_valueBehind 21 = .ok (.iconst 0, 1) := by decide +kernel
theorem dX0_valueBehind_22 : decode cX0_valueBehind 22 = .ok (.invokevirtual 19, 3) := by decide +kernel
theorem dX0_valueBehind_25 : decode cX0_valueBehind 25 = .ok (.isub, 1) := by decide +kernel
theorem dX0_valueBehind_26 : decode cX0_valueBehind 26 = .ok (.i2l, 1) := by decide +kernel
theorem dX0_valueBehind_27 : decode cX0_valueBehind 27 = .ok (.lstore 4, 2) := by decide +kernel
theorem dX0_valueBehind_29 : decode cX0_valueBehind 29 = .ok (.iload_n 1, 1) := by decide +kernel
theorem dX0_valueBehind_30 : decode cX0_valueBehind 30 = .ok (.ifCond .lt 20, 3) := by decide +kernel
theorem dX0_valueBehind_33 : decode cX0_valueBehind 33 = .ok (.iload_n 1, 1) := by decide +kernel
theorem dX0_valueBehind_34 : decode cX0_valueBehind 34 = .ok (.aload_n 0, 1) := by decide +kernel
theorem dX0_valueBehind_35 : decode cX0_valueBehind 35 = .ok (.getfield 9, 3) := by decide +kernel
theorem dX0_valueBehind_38 : decode cX0_valueBehind 38 = .ok (.iconst 1, 1) := by decide +kernel
theorem dX0_valueBehind_39 : decode cX0_valueBehind 39 = .ok (.isub, 1) := by decide +kernel
theorem dX0_valueBehind_40 : decode cX0_valueBehind 40 = .ok (.if_icmp .ge 10, 3) := by decide +kernel
theorem dX0_valueBehind_43 : decode cX0_valueBehind 43 = .ok (.lload 4, 2) := by decide +kernel
theorem dX0_valueBehind_45 : decode cX0_valueBehind 45 = .ok (.lconst 0, 1) := by decide +kernel
theorem dX0_valueBehind_46 : decode cX0_valueBehind 46 = .ok (.lcmp, 1) := by decide +kernel
theorem dX0_valueBehind_47 : decode cX0_valueBehind 47 = .ok (.ifCond .gt 5, 3) := by decide +kernel
theorem dX0_valueBehind_50 : decode cX0_valueBehind 50 = .ok (.iload_n 3, 1) := by decide +kernel
theorem dX0_valueBehind_51 : decode cX0_valueBehind 51 = .ok (.ireturn, 1) := by decide +kernel
theorem dX0_valueBehind_52 : decode cX0_valueBehind 52 = .ok (.sipush 1000, 3) := by decide +kernel
theorem dX0_valueBehind_55 : decode cX0_valueBehind 55 = .ok (.iload_n 2, 1) := by decide +kernel
theorem dX0_valueBehind_56 : decode cX0_valueBehind 56 = .ok (.aload_n 0, 1) := by decide +kernel
theorem dX0_valueBehind_57 : decode cX0_valueBehind 57 = .ok (.iload_n 1, 1) := by decide +kernel
theorem dX0_valueBehind_58 : decode cX0_valueBehind 58 = .ok (.iconst 0, 1) := by decide +kernel
theorem dX0_valueBehind_59 : decode cX0_valueBehind 59 = .ok (.invokevirtual 19, 3) := by decide +kernel
theorem dX0_valueBehind_62 : decode cX0_valueBehind 62 = .ok (.isub, 1) := by decide +kernel
theorem dX0_valueBehind_63 : decode cX0_valueBehind 63 = .ok (.imul, 1) := by decide +kernel
theorem dX0_valueBehind_64 : decode cX0_valueBehind 64 = .ok (.i2l, 1) := by decide +kernel
theorem dX0_valueBehind_65 : decode cX0_valueBehind 65 = .ok (.lload 4, 2) := by decide +kernel
theorem dX0_valueBehind_67 : decode cX0_valueBehind 67 = .ok (.ldiv, 1) := by decide +kernel
theorem dX0_valueBehind_68 : decode cX0_valueBehind 68 = .ok (.lstore 6, 2) := by decide +kernel
theorem dX0_valueBehind_70 : decode cX0_valueBehind 70 = .ok (.aload_n 0, 1) := by decide +kernel
theorem dX0_valueBehind_71 : decode cX0_valueBehind 71 = .ok (.iload_n 1, 1) := by decide +kernel
theorem dX0_valueBehind_72 : decode cX0_valueBehind 72 = .ok (.iconst 1, 1) := by decide +kernel
theorem dX0_valueBehind_73 : decode cX0_valueBehind 73 = .ok (.iadd, 1) := by decide +kernel
theorem dX0_valueBehind_74 : decode cX0_valueBehind 74 = .ok (.iconst 1, 1) := by decide +kernel
theorem dX0_valueBehind_75 : decode cX0_valueBehind 75 = .ok (.invokevirtual 19, 3) := by decide +kernel
theorem dX0_valueBehind_78 : decode cX0_valueBehind 78 = .ok (.iload_n 3, 1) := by decide +kernel
theorem dX0_valueBehind_79 : decode cX0_valueBehind 79 = .ok (.isub, 1) := by decide +kernel
theorem dX0_valueBehind_80 : decode cX0_valueBehind 80 = .ok (.i2l, 1) := by decide +kernel
theorem dX0_valueBehind_81 : decode cX0_valueBehind 81 = .ok (.lstore 8, 2) := by decide +kernel
theorem dX0_valueBehind_83 : decode cX0_valueBehind 83 = .ok (.aload_n 0, 1) := by decide +kernel
theorem dX0_valueBehind_84 : decode cX0_valueBehind 84 = .ok (.iload_n 1, 1) := by decide +kernel
theorem dX0_valueBehind_85 : decode cX0_valueBehind 85 = .ok (.iconst 2, 1) := by decide +kernel
theorem dX0_valueBehind_86 : decode cX0_valueBehind 86 = .ok (.invokevirtual 19, 3) := by decide +kernel
theorem dX0_valueBehind_89 : decode cX0_valueBehind 89 = .ok (.tableswitch 166 1 5 #[35, 48, 64, 92, 119], 35) := by decide +kernel
theorem dX0_valueBehind_124 : decode cX0_valueBehind 124 = .ok (.iload_n 3, 1) := by decide +kernel
theorem dX0_valueBehind_125 : decode cX0_valueBehind 125 = .ok (.lload 8, 2) := by decide +kernel
theorem dX0_valueBehind_127 : decode cX0_valueBehind 127 = .ok (.lload 6, 2) := by decide +kernel
theorem dX0_valueBehind_129 : decode cX0_valueBehind 129 = .ok (.lmul, 1) := by decide +kernel
theorem dX0_valueBehind_130 : decode cX0_valueBehind 130 = .ok (.ldc2_w 68, 3) := by decide +kernel
theorem dX0_valueBehind_133 : decode cX0_valueBehind 133 = .ok (.ldiv, 1) := by decide +kernel
theorem dX0_valueBehind_134 : decode cX0_valueBehind 134 = .ok (.l2i, 1) := by decide +kernel
theorem dX0_valueBehind_135 : decode cX0_valueBehind 135 = .ok (.iadd, 1) := by decide +kernel
theorem dX0_valueBehind_136 : decode cX0_valueBehind 136 = .ok (.ireturn, 1) := by decide +kernel
theorem dX0_valueBehind_137 : decode cX0_valueBehind 137 = .ok (.iload_n 3, 1) := by decide +kernel
theorem dX0_valueBehind_138 : decode cX0_valueBehind 138 = .ok (.lload 8, 2) := by decide +kernel
theorem dX0_valueBehind_140 : decode cX0_valueBehind 140 = .ok (.lload 6, 2) := by decide +kernel
theorem dX0_valueBehind_142 : decode cX0_valueBehind 142 = .ok (.lmul, 1) := by decide +kernel
theorem dX0_valueBehind_143 : decode cX0_valueBehind 143 = .ok (.lload 6, 2) := by decide +kernel
theorem dX0_valueBehind_145 : decode cX0_valueBehind 145 = .ok (.lmul, 1) := by decide +kernel
theorem dX0_valueBehind_146 : decode cX0_valueBehind 146 = .ok (.ldc2_w 70, 3) := by decide +kernel
theorem dX0_valueBehind_149 : decode cX0_valueBehind 149 = .ok (.ldiv, 1) := by decide +kernel
theorem dX0_valueBehind_150 : decode cX0_valueBehind 150 = .ok (.l2i, 1) := by decide +kernel
theorem dX0_valueBehind_151 : decode cX0_valueBehind 151 = .ok (.iadd, 1) := by decide +kernel
theorem dX0_valueBehind_152 : decode cX0_valueBehind 152 = .ok (.ireturn, 1) := by decide +kernel
theorem dX0_valueBehind_153 : decode cX0_valueBehind 153 = .ok (.iload_n 3, 1) := by decide +kernel
theorem dX0_valueBehind_154 : decode cX0_valueBehind 154 = .ok (.lload 8, 2) := by decide +kernel
theorem dX0_valueBehind_156 : decode cX0_valueBehind 156 = .ok (.ldc2_w 70, 3) := by decide +kernel
theorem dX0_valueBehind_159 : decode cX0_valueBehind 159 = .ok (.ldc2_w 68, 3) := by decide +kernel
theorem dX0_valueBehind_162 : decode cX0_valueBehind 162 = .ok (.lload 6, 2) := by decide +kernel
theorem dX0_valueBehind_164 : decode cX0_valueBehind 164 = .ok (.lsub, 1) := by decide +kernel
theorem dX0_valueBehind_165 : decode cX0_valueBehind 165 = .ok (.ldc2_w 68, 3) := by decide +kernel
theorem dX0_valueBehind_168 : decode cX0_valueBehind 168 = .ok (.lload 6, 2) := by decide +kernel
theorem dX0_valueBehind_170 : decode cX0_valueBehind 170 = .ok (.lsub, 1) := by decide +kernel
theorem dX0_valueBehind_171 : decode cX0_valueBehind 171 = .ok (.lmul, 1) := by decide +kernel
theorem dX0_valueBehind_172 : decode cX0_valueBehind 172 = .ok (.lsub, 1) := by decide +kernel
theorem dX0_valueBehind_173 : decode cX0_valueBehind 173 = .ok (.lmul, 1) := by decide +kernel
theorem dX0_valueBehind_174 : decode cX0_valueBehind 174 = .ok (.ldc2_w 70, 3) := by decide +kernel
theorem dX0_valueBehind_177 : decode cX0_valueBehind 177 = .ok (.ldiv, 1) := by decide +kernel
theorem dX0_valueBehind_178 : decode cX0_valueBehind 178 = .ok (.l2i, 1) := by decide +kernel
theorem dX0_valueBehind_179 : decode cX0_valueBehind 179 = .ok (.iadd, 1) := by decide +kernel
theorem dX0_valueBehind_180 : decode cX0_valueBehind 180 = .ok (.ireturn, 1) := by decide +kernel
theorem dX0_valueBehind_181 : decode cX0_valueBehind 181 = .ok (.iload_n 3, 1) := by decide +kernel
theorem dX0_valueBehind_182 : decode cX0_valueBehind 182 = .ok (.lload 8, 2) := by decide +kernel
theorem dX0_valueBehind_184 : decode cX0_valueBehind 184 = .ok (.lload 6, 2) := by decide +kernel
theorem dX0_valueBehind_186 : decode cX0_valueBehind 186 = .ok (.lmul, 1) := by decide +kernel
theorem dX0_valueBehind_187 : decode cX0_valueBehind 187 = .ok (.lload 6, 2) := by decide +kernel
theorem dX0_valueBehind_189 : decode cX0_valueBehind 189 = .ok (.lmul, 1) := by decide +kernel
theorem dX0_valueBehind_190 : decode cX0_valueBehind 190 = .ok (.ldc2_w 72, 3) := by decide +kernel
theorem dX0_valueBehind_193 : decode cX0_valueBehind 193 = .ok (.ldc2_w 74, 3) := by decide +kernel
theorem dX0_valueBehind_196 : decode cX0_valueBehind 196 = .ok (.lload 6, 2) := by decide +kernel
theorem dX0_valueBehind_198 : decode cX0_valueBehind 198 = .ok (.lmul, 1) := by decide +kernel
theorem dX0_valueBehind_199 : decode cX0_valueBehind 199 = .ok (.lsub, 1) := by decide +kernel
theorem dX0_valueBehind_200 : decode cX0_valueBehind 200 = .ok (.lmul, 1) := by decide +kernel
theorem dX0_valueBehind_201 : decode cX0_valueBehind 201 = .ok (.ldc2_w 76, 3) := by decide +kernel
theorem dX0_valueBehind_204 : decode cX0_valueBehind 204 = .ok (.ldiv, 1) := by decide +kernel
theorem dX0_valueBehind_205 : decode cX0_valueBehind 205 = .ok (.l2i, 1) := by decide +kernel
theorem dX0_valueBehind_206 : decode cX0_valueBehind 206 = .ok (.iadd, 1) := by decide +kernel
theorem dX0_valueBehind_207 : decode cX0_valueBehind 207 = .ok (.ireturn, 1) := by decide +kernel
theorem dX0_valueBehind_208 : decode cX0_valueBehind 208 = .ok (.lload 4, 2) := by decide +kernel
theorem dX0_valueBehind_210 : decode cX0_valueBehind 210 = .ok (.aload_n 0, 1) := by decide +kernel
theorem dX0_valueBehind_211 : decode cX0_valueBehind 211 = .ok (.iload_n 1, 1) := by decide +kernel
theorem dX0_valueBehind_212 : decode cX0_valueBehind 212 = .ok (.invokevirtual 78, 3) := by decide +kernel
theorem dX0_valueBehind_215 : decode cX0_valueBehind 215 = .ok (.i2l, 1) := by decide +kernel
theorem dX0_valueBehind_216 : decode cX0_valueBehind 216 = .ok (.lmul, 1) := by decide +kernel
theorem dX0_valueBehind_217 : decode cX0_valueBehind 217 = .ok (.ldc2_w 68, 3) := by decide +kernel
theorem dX0_valueBehind_220 : decode cX0_valueBehind 220 = .ok (.ldiv, 1) := by decide +kernel
theorem dX0_valueBehind_221 : decode cX0_valueBehind 221 = .ok (.lstore 10, 2) := by decide +kernel
theorem dX0_valueBehind_223 : decode cX0_valueBehind 223 = .ok (.lload 4, 2) := by decide +kernel
theorem dX0_valueBehind_225 : decode cX0_valueBehind 225 = .ok (.aload_n 0, 1) := by decide +kernel
theorem dX0_valueBehind_226 : decode cX0_valueBehind 226 = .ok (.iload_n 1, 1) := by decide +kernel
theorem dX0_valueBehind_227 : decode cX0_valueBehind 227 = .ok (.iconst 1, 1) := by decide +kernel
theorem dX0_valueBehind_228 : decode cX0_valueBehind 228 = .ok (.iadd, 1) := by decide +kernel
theorem dX0_valueBehind_229 : decode cX0_valueBehind 229 = .ok (.invokevirtual 78, 3) := by decide +kernel
theorem dX0_valueBehind_232 : decode cX0_valueBehind 232 = .ok (.i2l, 1) := by decide +kernel
theorem dX0_valueBehind_233 : decode cX0_valueBehind 233 = .ok (.lmul, 1) := by decide +kernel
theorem dX0_valueBehind_234 : decode cX0_valueBehind 234 = .ok (.ldc2_w 68, 3) := by decide +kernel
theorem dX0_valueBehind_237 : decode cX0_valueBehind 237 = .ok (.ldiv, 1) := by decide +kernel
theorem dX0_valueBehind_238 : decode cX0_valueBehind 238 = .ok (.lstore 12, 2) := by decide +kernel
theorem dX0_valueBehind_240 : decode cX0_valueBehind 240 = .ok (.iload_n 3, 1) := by decide +kernel
theorem dX0_valueBehind_241 : decode cX0_valueBehind 241 = .ok (.lload 8, 2) := by decide +kernel
theorem dX0_valueBehind_243 : decode cX0_valueBehind 243 = .ok (.lload 6, 2) := by decide +kernel
theorem dX0_valueBehind_245 : decode cX0_valueBehind 245 = .ok (.lload 10, 2) := by decide +kernel
theorem dX0_valueBehind_247 : decode cX0_valueBehind 247 = .ok (.lload 12, 2) := by decide +kernel
theorem dX0_valueBehind_249 : decode cX0_valueBehind 249 = .ok (.invokestatic 81, 3) := by decide +kernel
theorem dX0_valueBehind_252 : decode cX0_valueBehind 252 = .ok (.l2i, 1) := by decide +kernel
theorem dX0_valueBehind_253 : decode cX0_valueBehind 253 = .ok (.iadd, 1) := by decide +kernel
theorem dX0_valueBehind_254 : decode cX0_valueBehind 254 = .ok (.ireturn, 1) := by decide +kernel
theorem dX0_valueBehind_255 : decode cX0_valueBehind 255 = .ok (.iload_n 3, 1) := by decide +kernel
theorem dX0_valueBehind_256 : decode cX0_valueBehind 256 = .ok (.ireturn, 1) := by decide +kernel
theorem dX0_riseByTangents_0 : decode cX0_riseByTangents 0 = .ok (.lload_n 2, 1) := by decide +kernel
theorem dX0_riseByTangents_1 : decode cX0_riseByTangents 1 = .ok (.lload_n 2, 1) := by decide +kernel
theorem dX0_riseByTangents_2 : decode cX0_riseByTangents 2 = .ok (.lmul, 1) := by decide +kernel
theorem dX0_riseByTangents_3 : decode cX0_riseByTangents 3 = .ok (.lstore 8, 2) := by decide +kernel
theorem dX0_riseByTangents_5 : decode cX0_riseByTangents 5 = .ok (.lload 8, 2) := by decide +kernel
theorem dX0_riseByTangents_7 : decode cX0_riseByTangents 7 = .ok (.lload_n 2, 1) := by decide +kernel
theorem dX0_riseByTangents_8 : decode cX0_riseByTangents 8 = .ok (.lmul, 1) := by decide +kernel
theorem dX0_riseByTangents_9 : decode cX0_riseByTangents 9 = .ok (.lstore 10, 2) := by decide +kernel
theorem dX0_riseByTangents_11 : decode cX0_riseByTangents 11 = .ok (.lload_n 0, 1) := by decide +kernel
theorem dX0_riseByTangents_12 : decode cX0_riseByTangents 12 = .ok (.ldc2_w 72, 3) := by decide +kernel
theorem dX0_riseByTangents_15 : decode cX0_riseByTangents 15 = .ok (.lload 8, 2) := by decide +kernel
theorem dX0_riseByTangents_17 : decode cX0_riseByTangents 17 = .ok (.lmul, 1) := by decide +kernel
theorem dX0_riseByTangents_18 : decode cX0_riseByTangents 18 = .ok (.ldc2_w 74, 3) := by decide +kernel
theorem dX0_riseByTangents_21 : decode cX0_riseByTangents 21 = .ok (.lload 10, 2) := by decide +kernel
theorem dX0_riseByTangents_23 : decode cX0_riseByTangents 23 = .ok (.lmul, 1) := by decide +kernel
theorem dX0_riseByTangents_24 : decode cX0_riseByTangents 24 = .ok (.lsub, 1) := by decide +kernel
theorem dX0_riseByTangents_25 : decode cX0_riseByTangents 25 = .ok (.lmul, 1) := by decide +kernel
theorem dX0_riseByTangents_26 : decode cX0_riseByTangents 26 = .ok (.lload 4, 2) := by decide +kernel
theorem dX0_riseByTangents_28 : decode cX0_riseByTangents 28 = .ok (.lload 10, 2) := by decide +kernel
theorem dX0_riseByTangents_30 : decode cX0_riseByTangents 30 = .ok (.ldc2_w 85, 3) := by decide +kernel
theorem dX0_riseByTangents_33 : decode cX0_riseByTangents 33 = .ok (.lload 8, 2) := by decide +kernel
theorem dX0_riseByTangents_35 : decode cX0_riseByTangents 35 = .ok (.lmul, 1) := by decide +kernel
theorem dX0_riseByTangents_36 : decode cX0_riseByTangents 36 = .ok (.lsub, 1) := by decide +kernel
theorem dX0_riseByTangents_37 : decode cX0_riseByTangents 37 = .ok (.ldc2_w 70, 3) := by decide +kernel
theorem dX0_riseByTangents_40 : decode cX0_riseByTangents 40 = .ok (.lload_n 2, 1) := by decide +kernel
theorem dX0_riseByTangents_41 : decode cX0_riseByTangents 41 = .ok (.lmul, 1) := by decide +kernel
theorem dX0_riseByTangents_42 : decode cX0_riseByTangents 42 = .ok (.ladd, 1) := by decide +kernel
theorem dX0_riseByTangents_43 : decode cX0_riseByTangents 43 = .ok (.lmul, 1) := by decide +kernel
theorem dX0_riseByTangents_44 : decode cX0_riseByTangents 44 = .ok (.ladd, 1) := by decide +kernel
theorem dX0_riseByTangents_45 : decode cX0_riseByTangents 45 = .ok (.lload 6, 2) := by decide +kernel
theorem dX0_riseByTangents_47 : decode cX0_riseByTangents 47 = .ok (.lload 10, 2) := by decide +kernel
theorem dX0_riseByTangents_49 : decode cX0_riseByTangents 49 = .ok (.ldc2_w 68, 3) := by decide +kernel
theorem dX0_riseByTangents_52 : decode cX0_riseByTangents 52 = .ok (.lload 8, 2) := by decide +kernel
theorem dX0_riseByTangents_54 : decode cX0_riseByTangents 54 = .ok (.lmul, 1) := by decide +kernel
theorem dX0_riseByTangents_55 : decode cX0_riseByTangents 55 = .ok (.lsub, 1) := by decide +kernel
theorem dX0_riseByTangents_56 : decode cX0_riseByTangents 56 = .ok (.lmul, 1) := by decide +kernel
theorem dX0_riseByTangents_57 : decode cX0_riseByTangents 57 = .ok (.ladd, 1) := by decide +kernel
theorem dX0_riseByTangents_58 : decode cX0_riseByTangents 58 = .ok (.ldc2_w 76, 3) := by decide +kernel
theorem dX0_riseByTangents_61 : decode cX0_riseByTangents 61 = .ok (.ldiv, 1) := by decide +kernel
theorem dX0_riseByTangents_62 : decode cX0_riseByTangents 62 = .ok (.lreturn, 1) := by decide +kernel
theorem dX1_init_0 : decode cX1_init 0 = .ok (.aload_n 0, 1) := by decide +kernel
theorem dX1_init_1 : decode cX1_init 1 = .ok (.invokespecial 3, 3) := by decide +kernel
theorem dX1_init_4 : decode cX1_init 4 = .ok (.aload_n 0, 1) := by decide +kernel
theorem dX1_init_5 : decode cX1_init 5 = .ok (.sipush 150, 3) := by decide +kernel
theorem dX1_init_8 : decode cX1_init 8 = .ok (.newarray .byte, 2) := by decide +kernel
theorem dX1_init_10 : decode cX1_init 10 = .ok (.putfield 9, 3) := by decide +kernel
theorem dX1_init_13 : decode cX1_init 13 = .ok (.aload_n 0, 1) := by decide +kernel
theorem dX1_init_14 : decode cX1_init 14 = .ok (.iconst 0, 1) := by decide +kernel
theorem dX1_init_15 : decode cX1_init 15 = .ok (.putfield 15, 3) := by decide +kernel
theorem dX1_init_18 : decode cX1_init 18 = .ok (.aload_n 0, 1) := by decide +kernel
theorem dX1_init_19 : decode cX1_init 19 = .ok (.iconst 0, 1) := by decide +kernel
theorem dX1_init_20 : decode cX1_init 20 = .ok (.putfield 19, 3) := by decide +kernel
theorem dX1_init_23 : decode cX1_init 23 = .ok (.return_, 1) := by decide +kernel
theorem dX1_add_0 : decode cX1_add 0 = .ok (.aload_n 0, 1) := by decide +kernel
theorem dX1_add_1 : decode cX1_add 1 = .ok (.getfield 15, 3) := by decide +kernel
theorem dX1_add_4 : decode cX1_add 4 = .ok (.sipush 150, 3) := by decide +kernel
theorem dX1_add_7 : decode cX1_add 7 = .ok (.if_icmp .ge 24, 3) := by decide +kernel
theorem dX1_add_10 : decode cX1_add 10 = .ok (.aload_n 0, 1) := by decide +kernel
theorem dX1_add_11 : decode cX1_add 11 = .ok (.getfield 9, 3) := by decide +kernel
theorem dX1_add_14 : decode cX1_add 14 = .ok (.aload_n 0, 1) := by decide +kernel
theorem dX1_add_15 : decode cX1_add 15 = .ok (.getfield 15, 3) := by decide +kernel
theorem dX1_add_18 : decode cX1_add 18 = .ok (.iload_n 1, 1) := by decide +kernel
theorem dX1_add_19 : decode cX1_add 19 = .ok (.i2b, 1) := by decide +kernel
theorem dX1_add_20 : decode cX1_add 20 = .ok (.bastore, 1) := by decide +kernel
theorem dX1_add_21 : decode cX1_add 21 = .ok (.aload_n 0, 1) := by decide +kernel
theorem dX1_add_22 : decode cX1_add 22 = .ok (.dup, 1) := by decide +kernel
theorem dX1_add_23 : decode cX1_add 23 = .ok (.getfield 15, 3) := by decide +kernel
theorem dX1_add_26 : decode cX1_add 26 = .ok (.iconst 1, 1) := by decide +kernel
theorem dX1_add_27 : decode cX1_add 27 = .ok (.iadd, 1) := by decide +kernel
theorem dX1_add_28 : decode cX1_add 28 = .ok (.putfield 15, 3) := by decide +kernel
theorem dX1_add_31 : decode cX1_add 31 = .ok (.return_, 1) := by decide +kernel
set_option maxRecDepth 20000 in
theorem ggX1_readInto_X1_readKey : GoodIn wsX1_readInto wsX1_readKey := goodIn_r _ [7, 1, 8, 9, 10, 6, 11, 12, 13, 14, 15, 16, 2, 17, 18, 19, 20, 21, 22, 23, 24, 25, 26, 27, 28, 29, 30, 31, 32, 33, 34, 35, 36, 37, 38, 39, 40, 41, 42, 43, 44, 45, 46, 47, 48, 49, 52, 53, 54, 50, 51] (by decide +kernel) (by decide +kernel)
set_option maxRecDepth 20000 in
theorem gX1_readInto_X1_readKey : GoodIn wsX1_readInto (wsV RX1 27 RX1 yX1_readKey wsX1_readKey) := goodIn_app (goodIn_of _ (by decide +kernel)) ggX1_readInto_X1_readKey
theorem dX1_readInto_0 : decode cX1_readInto 0 = .ok (.aload_n 1, 1) := by decide +kernel
theorem dX1_readInto_1 : decode cX1_readInto 1 = .ok (.iconst 0, 1) := by decide +kernel
theorem dX1_readInto_2 : decode cX1_readInto 2 = .ok (.putfield 22, 3) := by decide +kernel
theorem dX1_readInto_5 : decode cX1_readInto 5 = .ok (.aload_n 0, 1) := by decide +kernel
theorem dX1_readInto_6 : decode cX1_readInto 6 = .ok (.iconst 0, 1) := by decide +kernel
theorem dX1_readInto_7 : decode cX1_readInto 7 = .ok (.putfield 19, 3) := by decide +kernel
theorem dX1_readInto_10 : decode cX1_readInto 10 = .ok (.iconst 0, 1) := by decide +kernel
theorem dX1_readInto_11 : decode cX1_readInto 11 = .ok (.istore_n 2, 1) := by decide +kernel
theorem dX1_readInto_12 : decode cX1_readInto 12 = .ok (.iload_n 2, 1) := by decide +kernel
theorem dX1_readInto_13 : decode cX1_readInto 13 = .ok (.bipush 16, 2) := by decide +kernel
theorem dX1_readInto_15 : decode cX1_readInto 15 = .ok (.if_icmp .gt 41, 3) := by decide +kernel
theorem dX1_readInto_18 : decode cX1_readInto 18 = .ok (.aload_n 0, 1) := by decide +kernel
theorem dX1_readInto_19 : decode cX1_readInto 19 = .ok (.getfield 19, 3) := by decide +kernel
theorem dX1_readInto_22 : decode cX1_readInto 22 = .ok (.aload_n 0, 1) := by decide +kernel
theorem dX1_readInto_23 : decode cX1_readInto 23 = .ok (.getfield 15, 3) := by decide +kernel
theorem dX1_readInto_26 : decode cX1_readInto 26 = .ok (.if_icmp .lt 5, 3) := by decide +kernel
theorem dX1_readInto_29 : decode cX1_readInto 29 = .ok (.iconst (-1), 1) := by decide +kernel
theorem dX1_readInto_30 : decode cX1_readInto 30 = .ok (.ireturn, 1) := by decide +kernel
theorem dX1_readInto_31 : decode cX1_readInto 31 = .ok (.iload_n 2, 1) := by decide +kernel
theorem dX1_readInto_32 : decode cX1_readInto 32 = .ok (.bipush 16, 2) := by decide +kernel
theorem dX1_readInto_34 : decode cX1_readInto 34 = .ok (.if_icmp .eq 11, 3) := by decide +kernel
theorem dX1_readInto_37 : decode cX1_readInto 37 = .ok (.aload_n 0, 1) := by decide +kernel
theorem dX1_readInto_38 : decode cX1_readInto 38 = .ok (.aload_n 1, 1) := by decide +kernel
theorem dX1_readInto_39 : decode cX1_readInto 39 = .ok (.invokevirtual 27, 3) := by decide +kernel
theorem dX1_readInto_42 : decode cX1_readInto 42 = .ok (.ifCond .ne 8, 3) := by decide +kernel
theorem dX1_readInto_45 : decode cX1_readInto 45 = .ok (.aload_n 0, 1) := by decide +kernel
theorem dX1_readInto_46 : decode cX1_readInto 46 = .ok (.getfield 19, 3) := by decide +kernel
theorem dX1_readInto_49 : decode cX1_readInto 49 = .ok (.ireturn, 1) := by decide +kernel
theorem dX1_readInto_50 : decode cX1_readInto 50 = .ok (.iinc 2 1, 3) := by decide +kernel
theorem dX1_readInto_53 : decode cX1_readInto 53 = .ok (.goto (-41), 3) := by decide +kernel
theorem dX1_readInto_56 : decode cX1_readInto 56 = .ok (.iconst (-1), 1) := by decide +kernel
theorem dX1_readInto_57 : decode cX1_readInto 57 = .ok (.ireturn, 1) := by decide +kernel
set_option maxRecDepth 20000 in
theorem ggX1_readKey_X1_readDigits : GoodIn wsX1_readKey wsX1_readDigits := goodIn_r _ [6, 1, 7, 8, 9, 10, 5, 11, 12, 46, 47, 48] (by decide +kernel) (by decide +kernel)
set_option maxRecDepth 20000 in
theorem gX1_readKey_X1_readDigits : GoodIn wsX1_readKey (wsV RX1 31 RX1 yX1_readDigits wsX1_readDigits) := goodIn_app (goodIn_of _ (by decide +kernel)) ggX1_readKey_X1_readDigits
set_option maxRecDepth 20000 in
theorem ggX1_readKey_X1_isSign : GoodIn wsX1_readKey wsX1_isSign := goodIn_r _ [11, 12, 7, 46, 47, 48] (by decide +kernel) (by decide +kernel)
set_option maxRecDepth 20000 in
theorem gX1_readKey_X1_isSign : GoodIn wsX1_readKey (wsV RX1 35 RX1 yX1_isSign wsX1_isSign) := goodIn_app (goodIn_of _ (by decide +kernel)) ggX1_readKey_X1_isSign
set_option maxRecDepth 20000 in
theorem ggX1_readKey_X0_lastFrame : GoodIn wsX1_readKey wsX0_lastFrame := goodIn_r _ [16, 17, 18, 19, 20, 14, 21, 22, 49, 50] (by decide +kernel) (by decide +kernel)
set_option maxRecDepth 20000 in
theorem gX1_readKey_X0_lastFrame_n39 : GoodIn wsX1_readKey (wsX0_lastFrame) := ggX1_readKey_X0_lastFrame
set_option maxRecDepth 20000 in
theorem ggX1_readKey_X1_skip : GoodIn wsX1_readKey wsX1_skip := goodIn_r _ [26, 1, 8, 9, 10, 5, 11, 12, 7, 46, 47, 48] (by decide +kernel) (by decide +kernel)
set_option maxRecDepth 20000 in
theorem gX1_readKey_X1_skip : GoodIn wsX1_readKey (wsV RX1 43 RX1 yX1_skip wsX1_skip) := goodIn_app (goodIn_of _ (by decide +kernel)) ggX1_readKey_X1_skip
set_option maxRecDepth 20000 in
theorem ggX1_readKey_X1_readMode : GoodIn wsX1_readKey wsX1_readMode := goodIn_r _ [30, 23, 24, 25, 5, 26, 1, 8, 9, 10, 11, 12, 7, 46, 47, 48] (by decide +kernel) (by decide +kernel)
set_option maxRecDepth 20000 in
theorem gX1_readKey_X1_readMode : GoodIn wsX1_readKey (wsV RX1 47 RX1 yX1_readMode wsX1_readMode) := goodIn_app (goodIn_of _ (by decide +kernel)) ggX1_readKey_X1_readMode
set_option maxRecDepth 20000 in
theorem ggX1_readKey_X0_insert : GoodIn wsX1_readKey wsX0_insert := goodIn_r _ [33, 17, 22, 34, 35, 36, 37, 38, 39, 40, 14, 41, 18, 19, 20, 21, 42, 43, 44, 45, 49, 50] (by decide +kernel) (by decide +kernel)
set_option maxRecDepth 20000 in
theorem gX1_readKey_X0_insert_n50 : GoodIn wsX1_readKey (wsX0_insert) := ggX1_readKey_X0_insert
theorem dX1_readKey_0 : decode cX1_readKey 0 = .ok (.aload_n 0, 1) := by decide +kernel
theorem dX1_readKey_1 : decode cX1_readKey 1 = .ok (.getfield 19, 3) := by decide +kernel
theorem dX1_readKey_4 : decode cX1_readKey 4 = .ok (.istore_n 2, 1) := by decide +kernel
theorem dX1_readKey_5 : decode cX1_readKey 5 = .ok (.aload_n 0, 1) := by decide +kernel
theorem dX1_readKey_6 : decode cX1_readKey 6 = .ok (.iconst 3, 1) := by decide +kernel
theorem dX1_readKey_7 : decode cX1_readKey 7 = .ok (.invokevirtual 31, 3) := by decide +kernel
theorem dX1_readKey_10 : decode cX1_readKey 10 = .ok (.istore_n 3, 1) := by decide +kernel
theorem dX1_readKey_11 : decode cX1_readKey 11 = .ok (.iload_n 3, 1) := by decide +kernel
theorem dX1_readKey_12 : decode cX1_readKey 12 = .ok (.iconst (-1), 1) := by decide +kernel
theorem dX1_readKey_13 : decode cX1_readKey 13 = .ok (.if_icmp .eq 18, 3) := by decide +kernel
theorem dX1_readKey_16 : decode cX1_readKey 16 = .ok (.aload_n 0, 1) := by decide +kernel
theorem dX1_readKey_17 : decode cX1_readKey 17 = .ok (.aload_n 0, 1) := by decide +kernel
theorem dX1_readKey_18 : decode cX1_readKey 18 = .ok (.getfield 19, 3) := by decide +kernel
theorem dX1_readKey_21 : decode cX1_readKey 21 = .ok (.bipush 48, 2) := by decide +kernel
theorem dX1_readKey_23 : decode cX1_readKey 23 = .ok (.bipush 57, 2) := by decide +kernel
theorem dX1_readKey_25 : decode cX1_readKey 25 = .ok (.invokevirtual 35, 3) := by decide +kernel
theorem dX1_readKey_28 : decode cX1_readKey 28 = .ok (.ifCond .eq 5, 3) := by decide +kernel
theorem dX1_readKey_31 : decode cX1_readKey 31 = .ok (.iconst 0, 1) := by decide +kernel
theorem dX1_readKey_32 : decode cX1_readKey 32 = .ok (.ireturn, 1) := by decide +kernel
theorem dX1_readKey_33 : decode cX1_readKey 33 = .ok (.iload_n 3, 1) := by decide +kernel
theorem dX1_readKey_34 : decode cX1_readKey 34 = .ok (.aload_n 1, 1) := by decide +kernel
theorem dX1_readKey_35 : decode cX1_readKey 35 = .ok (.invokevirtual 39, 3) := by decide +kernel
theorem dX1_readKey_38 : decode cX1_readKey 38 = .ok (.if_icmp .gt 10, 3) := by decide +kernel
theorem dX1_readKey_41 : decode cX1_readKey 41 = .ok (.aload_n 0, 1) := by decide +kernel
theorem dX1_readKey_42 : decode cX1_readKey 42 = .ok (.iload_n 2, 1) := by decide +kernel
theorem dX1_readKey_43 : decode cX1_readKey 43 = .ok (.putfield 19, 3) := by decide +kernel
theorem dX1_readKey_46 : decode cX1_readKey 46 = .ok (.iconst 0, 1) := by decide +kernel
theorem dX1_readKey_47 : decode cX1_readKey 47 = .ok (.ireturn, 1) := by decide +kernel
theorem dX1_readKey_48 : decode cX1_readKey 48 = .ok (.aload_n 0, 1) := by decide +kernel
theorem dX1_readKey_49 : decode cX1_readKey 49 = .ok (.bipush 44, 2) := by decide +kernel
theorem dX1_readKey_51 : decode cX1_readKey 51 = .ok (.invokevirtual 43, 3) := by decide +kernel
theorem dX1_readKey_54 : decode cX1_readKey 54 = .ok (.ifCond .ne 5, 3) := by decide +kernel
theorem dX1_readKey_57 : decode cX1_readKey 57 = .ok (.iconst 0, 1) := by decide +kernel
theorem dX1_readKey_58 : decode cX1_readKey 58 = .ok (.ireturn, 1) := by decide +kernel
theorem dX1_readKey_59 : decode cX1_readKey 59 = .ok (.aload_n 0, 1) := by decide +kernel
theorem dX1_readKey_60 : decode cX1_readKey 60 = .ok (.bipush 45, 2) := by decide +kernel
theorem dX1_readKey_62 : decode cX1_readKey 62 = .ok (.invokevirtual 43, 3) := by decide +kernel
theorem dX1_readKey_65 : decode cX1_readKey 65 = .ok (.istore 4, 2) := by decide +kernel
theorem dX1_readKey_67 : decode cX1_readKey 67 = .ok (.aload_n 0, 1) := by decide +kernel
theorem dX1_readKey_68 : decode cX1_readKey 68 = .ok (.iconst 4, 1) := by decide +kernel
theorem dX1_readKey_69 : decode cX1_readKey 69 = .ok (.invokevirtual 31, 3) := by decide +kernel
theorem dX1_readKey_72 : decode cX1_readKey 72 = .ok (.istore 5, 2) := by decide +kernel
theorem dX1_readKey_74 : decode cX1_readKey 74 = .ok (.iload 5, 2) := by decide +kernel
theorem dX1_readKey_76 : decode cX1_readKey 76 = .ok (.iconst (-1), 1) := by decide +kernel
theorem dX1_readKey_77 : decode cX1_readKey 77 = .ok (.if_icmp .eq 27, 3) := by decide +kernel
theorem dX1_readKey_80 : decode cX1_readKey 80 = .ok (.aload_n 0, 1) := by decide +kernel
theorem dX1_readKey_81 : decode cX1_readKey 81 = .ok (.bipush 44, 2) := by decide +kernel
theorem dX1_readKey_83 : decode cX1_readKey 83 = .ok (.invokevirtual 43, 3) := by decide +kernel
theorem dX1_readKey_86 : decode cX1_readKey 86 = .ok (.ifCond .eq 18, 3) := by decide +kernel
theorem dX1_readKey_89 : decode cX1_readKey 89 = .ok (.aload_n 0, 1) := by decide +kernel
theorem dX1_readKey_90 : decode cX1_readKey 90 = .ok (.aload_n 0, 1) := by decide +kernel
theorem dX1_readKey_91 : decode cX1_readKey 91 = .ok (.getfield 19, 3) := by decide +kernel
theorem dX1_readKey_94 : decode cX1_readKey 94 = .ok (.bipush 48, 2) := by decide +kernel
theorem dX1_readKey_96 : decode cX1_readKey 96 = .ok (.bipush 53, 2) := by decide +kernel
theorem dX1_readKey_98 : decode cX1_readKey 98 = .ok (.invokevirtual 35, 3) := by decide +kernel
theorem dX1_readKey_101 : decode cX1_readKey 101 = .ok (.ifCond .ne 5, 3) := by decide +kernel
theorem dX1_readKey_104 : decode cX1_readKey 104 = .ok (.iconst 0, 1) := by decide +kernel
theorem dX1_readKey_105 : decode cX1_readKey 105 = .ok (.ireturn, 1) := by decide +kernel
theorem dX1_readKey_106 : decode cX1_readKey 106 = .ok (.aload_n 0, 1) := by decide +kernel
theorem dX1_readKey_107 : decode cX1_readKey 107 = .ok (.iconst 1, 1) := by decide +kernel
theorem dX1_readKey_108 : decode cX1_readKey 108 = .ok (.invokevirtual 31, 3) := by decide +kernel
theorem dX1_readKey_111 : decode cX1_readKey 111 = .ok (.istore 6, 2) := by decide +kernel
theorem dX1_readKey_113 : decode cX1_readKey 113 = .ok (.aload_n 0, 1) := by decide +kernel
theorem dX1_readKey_114 : decode cX1_readKey 114 = .ok (.bipush 108, 2) := by decide +kernel
theorem dX1_readKey_116 : decode cX1_readKey 116 = .ok (.invokevirtual 43, 3) := by decide +kernel
theorem dX1_readKey_119 : decode cX1_readKey 119 = .ok (.ifCond .eq 7, 3) := by decide +kernel
theorem dX1_readKey_122 : decode cX1_readKey 122 = .ok (.iconst 1, 1) := by decide +kernel
theorem dX1_readKey_123 : decode cX1_readKey 123 = .ok (.goto 4, 3) := by decide +kernel
theorem dX1_readKey_126 : decode cX1_readKey 126 = .ok (.iconst 0, 1) := by decide +kernel
theorem dX1_readKey_127 : decode cX1_readKey 127 = .ok (.istore 7, 2) := by decide +kernel
theorem dX1_readKey_129 : decode cX1_readKey 129 = .ok (.aload_n 0, 1) := by decide +kernel
theorem dX1_readKey_130 : decode cX1_readKey 130 = .ok (.invokevirtual 47, 3) := by decide +kernel
theorem dX1_readKey_133 : decode cX1_readKey 133 = .ok (.istore 8, 2) := by decide +kernel
theorem dX1_readKey_135 : decode cX1_readKey 135 = .ok (.aload_n 0, 1) := by decide +kernel
theorem dX1_readKey_136 : decode cX1_readKey 136 = .ok (.bipush 59, 2) := by decide +kernel
theorem dX1_readKey_138 : decode cX1_readKey 138 = .ok (.invokevirtual 43, 3) := by decide +kernel
theorem dX1_readKey_141 : decode cX1_readKey 141 = .ok (.ifCond .ne 5, 3) := by decide +kernel
theorem dX1_readKey_144 : decode cX1_readKey 144 = .ok (.iconst 0, 1) := by decide +kernel
theorem dX1_readKey_145 : decode cX1_readKey 145 = .ok (.ireturn, 1) := by decide +kernel
theorem dX1_readKey_146 : decode cX1_readKey 146 = .ok (.aload_n 1, 1) := by decide +kernel
theorem dX1_readKey_147 : decode cX1_readKey 147 = .ok (.iload_n 3, 1) := by decide +kernel
theorem dX1_readKey_148 : decode cX1_readKey 148 = .ok (.iload 4, 2) := by decide +kernel
theorem dX1_readKey_150 : decode cX1_readKey 150 = .ok (.ifCond .eq 9, 3) := by decide +kernel
theorem dX1_readKey_153 : decode cX1_readKey 153 = .ok (.iload 5, 2) := by decide +kernel
theorem dX1_readKey_155 : decode cX1_readKey 155 = .ok (.ineg, 1) := by decide +kernel
theorem dX1_readKey_156 : decode cX1_readKey 156 = .ok (.goto 5, 3) := by decide +kernel
theorem dX1_readKey_159 : decode cX1_readKey 159 = .ok (.iload 5, 2) := by decide +kernel
theorem dX1_readKey_161 : decode cX1_readKey 161 = .ok (.iload 6, 2) := by decide +kernel
theorem dX1_readKey_163 : decode cX1_readKey 163 = .ok (.iload 8, 2) := by decide +kernel
theorem dX1_readKey_165 : decode cX1_readKey 165 = .ok (.iconst 0, 1) := by decide +kernel
theorem dX1_readKey_166 : decode cX1_readKey 166 = .ok (.iload 7, 2) := by decide +kernel
theorem dX1_readKey_168 : decode cX1_readKey 168 = .ok (.invokevirtual 50, 3) := by decide +kernel
theorem dX1_readKey_171 : decode cX1_readKey 171 = .ok (.pop, 1) := by decide +kernel
theorem dX1_readKey_172 : decode cX1_readKey 172 = .ok (.iconst 1, 1) := by decide +kernel
theorem dX1_readKey_173 : decode cX1_readKey 173 = .ok (.ireturn, 1) := by decide +kernel
set_option maxRecDepth 20000 in
theorem ggX1_readMode_X1_skip : GoodIn wsX1_readMode wsX1_skip := goodIn_r _ [5, 6, 7, 8, 9, 4, 10, 11, 12, 13, 14, 15] (by decide +kernel) (by decide +kernel)
set_option maxRecDepth 20000 in
theorem gX1_readMode_X1_skip : GoodIn wsX1_readMode (wsV RX1 43 RX1 yX1_skip wsX1_skip) := goodIn_app (goodIn_of _ (by decide +kernel)) ggX1_readMode_X1_skip
theorem dX1_readMode_0 : decode cX1_readMode 0 = .ok (.aload_n 0, 1) := by decide +kernel
theorem dX1_readMode_1 : decode cX1_readMode 1 = .ok (.bipush 115, 2) := by decide +kernel
theorem dX1_readMode_3 : decode cX1_readMode 3 = .ok (.invokevirtual 43, 3) := by decide +kernel
theorem dX1_readMode_6 : decode cX1_readMode 6 = .ok (.ifCond .eq 5, 3) := by decide +kernel
theorem dX1_readMode_9 : decode cX1_readMode 9 = .ok (.iconst 1, 1) := by decide +kernel
theorem dX1_readMode_10 : decode cX1_readMode 10 = .ok (.ireturn, 1) := by decide +kernel
theorem dX1_readMode_11 : decode cX1_readMode 11 = .ok (.aload_n 0, 1) := by decide +kernel
theorem dX1_readMode_12 : decode cX1_readMode 12 = .ok (.bipush 118, 2) := by decide +kernel
theorem dX1_readMode_14 : decode cX1_readMode 14 = .ok (.invokevirtual 43, 3) := by decide +kernel
theorem dX1_readMode_17 : decode cX1_readMode 17 = .ok (.ifCond .eq 7, 3) := by decide +kernel
theorem dX1_readMode_20 : decode cX1_readMode 20 = .ok (.iconst 2, 1) := by decide +kernel
theorem dX1_readMode_21 : decode cX1_readMode 21 = .ok (.goto 4, 3) := by decide +kernel
theorem dX1_readMode_24 : decode cX1_readMode 24 = .ok (.iconst 0, 1) := by decide +kernel
theorem dX1_readMode_25 : decode cX1_readMode 25 = .ok (.ireturn, 1) := by decide +kernel
set_option maxRecDepth 20000 in
theorem ggX1_readDigits_X1_isSign : GoodIn wsX1_readDigits wsX1_isSign := goodIn_r _ [7, 8, 2, 9, 10, 11] (by decide +kernel) (by decide +kernel)
set_option maxRecDepth 20000 in
theorem gX1_readDigits_X1_isSign : GoodIn wsX1_readDigits (wsV RX1 35 RX1 yX1_isSign wsX1_isSign) := goodIn_app (goodIn_of _ (by decide +kernel)) ggX1_readDigits_X1_isSign
theorem dX1_readDigits_0 : decode cX1_readDigits 0 = .ok (.aload_n 0, 1) := by decide +kernel
theorem dX1_readDigits_1 : decode cX1_readDigits 1 = .ok (.aload_n 0, 1) := by decide +kernel
theorem dX1_readDigits_2 : decode cX1_readDigits 2 = .ok (.getfield 19, 3) := by decide +kernel
theorem dX1_readDigits_5 : decode cX1_readDigits 5 = .ok (.bipush 48, 2) := by decide +kernel
theorem dX1_readDigits_7 : decode cX1_readDigits 7 = .ok (.bipush 57, 2) := by decide +kernel
theorem dX1_readDigits_9 : decode cX1_readDigits 9 = .ok (.invokevirtual 35, 3) := by decide +kernel
theorem dX1_readDigits_12 : decode cX1_readDigits 12 = .ok (.ifCond .ne 5, 3) := by decide +kernel
theorem dX1_readDigits_15 : decode cX1_readDigits 15 = .ok (.iconst (-1), 1) := by decide +kernel
theorem dX1_readDigits_16 : decode cX1_readDigits 16 = .ok (.ireturn, 1) := by decide +kernel
theorem dX1_readDigits_17 : decode cX1_readDigits 17 = .ok (.iconst 0, 1) := by decide +kernel
theorem dX1_readDigits_18 : decode cX1_readDigits 18 = .ok (.istore_n 2, 1) := by decide +kernel
theorem dX1_readDigits_19 : decode cX1_readDigits 19 = .ok (.iconst 0, 1) := by decide +kernel
theorem dX1_readDigits_20 : decode cX1_readDigits 20 = .ok (.istore_n 3, 1) := by decide +kernel
theorem dX1_readDigits_21 : decode cX1_readDigits 21 = .ok (.iload_n 3, 1) := by decide +kernel
theorem dX1_readDigits_22 : decode cX1_readDigits 22 = .ok (.iload_n 1, 1) := by decide +kernel
theorem dX1_readDigits_23 : decode cX1_readDigits 23 = .ok (.if_icmp .ge 52, 3) := by decide +kernel
theorem dX1_readDigits_26 : decode cX1_readDigits 26 = .ok (.aload_n 0, 1) := by decide +kernel
theorem dX1_readDigits_27 : decode cX1_readDigits 27 = .ok (.aload_n 0, 1) := by decide +kernel
theorem dX1_readDigits_28 : decode cX1_readDigits 28 = .ok (.getfield 19, 3) := by decide +kernel
theorem dX1_readDigits_31 : decode cX1_readDigits 31 = .ok (.bipush 48, 2) := by decide +kernel
theorem dX1_readDigits_33 : decode cX1_readDigits 33 = .ok (.bipush 57, 2) := by decide +kernel
theorem dX1_readDigits_35 : decode cX1_readDigits 35 = .ok (.invokevirtual 35, 3) := by decide +kernel
theorem dX1_readDigits_38 : decode cX1_readDigits 38 = .ok (.ifCond .eq 37, 3) := by decide +kernel
theorem dX1_readDigits_41 : decode cX1_readDigits 41 = .ok (.iload_n 2, 1) := by decide +kernel
theorem dX1_readDigits_42 : decode cX1_readDigits 42 = .ok (.bipush 10, 2) := by decide +kernel
theorem dX1_readDigits_44 : decode cX1_readDigits 44 = .ok (.imul, 1) := by decide +kernel
theorem dX1_readDigits_45 : decode cX1_readDigits 45 = .ok (.aload_n 0, 1) := by decide +kernel
theorem dX1_readDigits_46 : decode cX1_readDigits 46 = .ok (.getfield 9, 3) := by decide +kernel
theorem dX1_readDigits_49 : decode cX1_readDigits 49 = .ok (.aload_n 0, 1) := by decide +kernel
theorem dX1_readDigits_50 : decode cX1_readDigits 50 = .ok (.getfield 19, 3) := by decide +kernel
theorem dX1_readDigits_53 : decode cX1_readDigits 53 = .ok (.baload, 1) := by decide +kernel
theorem dX1_readDigits_54 : decode cX1_readDigits 54 = .ok (.iadd, 1) := by decide +kernel
theorem dX1_readDigits_55 : decode cX1_readDigits 55 = .ok (.bipush 48, 2) := by decide +kernel
theorem dX1_readDigits_57 : decode cX1_readDigits 57 = .ok (.isub, 1) := by decide +kernel
theorem dX1_readDigits_58 : decode cX1_readDigits 58 = .ok (.istore_n 2, 1) := by decide +kernel
theorem dX1_readDigits_59 : decode cX1_readDigits 59 = .ok (.aload_n 0, 1) := by decide +kernel
theorem dX1_readDigits_60 : decode cX1_readDigits 60 = .ok (.dup, 1) := by decide +kernel
theorem dX1_readDigits_61 : decode cX1_readDigits 61 = .ok (.getfield 19, 3) := by decide +kernel
theorem dX1_readDigits_64 : decode cX1_readDigits 64 = .ok (.iconst 1, 1) := by decide +kernel
theorem dX1_readDigits_65 : decode cX1_readDigits 65 = .ok (.iadd, 1) := by decide +kernel
theorem dX1_readDigits_66 : decode cX1_readDigits 66 = .ok (.putfield 19, 3) := by decide +kernel
theorem dX1_readDigits_69 : decode cX1_readDigits 69 = .ok (.iinc 3 1, 3) := by decide +kernel
theorem dX1_readDigits_72 : decode cX1_readDigits 72 = .ok (.goto (-51), 3) := by decide +kernel
theorem dX1_readDigits_75 : decode cX1_readDigits 75 = .ok (.iload_n 2, 1) := by decide +kernel
theorem dX1_readDigits_76 : decode cX1_readDigits 76 = .ok (.ireturn, 1) := by decide +kernel
set_option maxRecDepth 20000 in
theorem ggX1_skip_X1_isSign : GoodIn wsX1_skip wsX1_isSign := goodIn_r _ [6, 7, 8, 9, 10, 11] (by decide +kernel) (by decide +kernel)
set_option maxRecDepth 20000 in
theorem gX1_skip_X1_isSign : GoodIn wsX1_skip (wsV RX1 35 RX1 yX1_isSign wsX1_isSign) := goodIn_app (goodIn_of _ (by decide +kernel)) ggX1_skip_X1_isSign
theorem dX1_skip_0 : decode cX1_skip 0 = .ok (.aload_n 0, 1) := by decide +kernel
theorem dX1_skip_1 : decode cX1_skip 1 = .ok (.aload_n 0, 1) := by decide +kernel
theorem dX1_skip_2 : decode cX1_skip 2 = .ok (.getfield 19, 3) := by decide +kernel
theorem dX1_skip_5 : decode cX1_skip 5 = .ok (.iload_n 1, 1) := by decide +kernel
theorem dX1_skip_6 : decode cX1_skip 6 = .ok (.iload_n 1, 1) := by decide +kernel
theorem dX1_skip_7 : decode cX1_skip 7 = .ok (.invokevirtual 35, 3) := by decide +kernel
theorem dX1_skip_10 : decode cX1_skip 10 = .ok (.ifCond .ne 5, 3) := by decide +kernel
theorem dX1_skip_13 : decode cX1_skip 13 = .ok (.iconst 0, 1) := by decide +kernel
theorem dX1_skip_14 : decode cX1_skip 14 = .ok (.ireturn, 1) := by decide +kernel
theorem dX1_skip_15 : decode cX1_skip 15 = .ok (.aload_n 0, 1) := by decide +kernel
theorem dX1_skip_16 : decode cX1_skip 16 = .ok (.dup, 1) := by decide +kernel
theorem dX1_skip_17 : decode cX1_skip 17 = .ok (.getfield 19, 3) := by decide +kernel
theorem dX1_skip_20 : decode cX1_skip 20 = .ok (.iconst 1, 1) := by decide +kernel
theorem dX1_skip_21 : decode cX1_skip 21 = .ok (.iadd, 1) := by decide +kernel
theorem dX1_skip_22 : decode cX1_skip 22 = .ok (.putfield 19, 3) := by decide +kernel
theorem dX1_skip_25 : decode cX1_skip 25 = .ok (.iconst 1, 1) := by decide +kernel
theorem dX1_skip_26 : decode cX1_skip 26 = .ok (.ireturn, 1) := by decide +kernel
theorem dX1_isSign_0 : decode cX1_isSign 0 = .ok (.iload_n 1, 1) := by decide +kernel
theorem dX1_isSign_1 : decode cX1_isSign 1 = .ok (.ifCond .lt 35, 3) := by decide +kernel
theorem dX1_isSign_4 : decode cX1_isSign 4 = .ok (.iload_n 1, 1) := by decide +kernel
theorem dX1_isSign_5 : decode cX1_isSign 5 = .ok (.aload_n 0, 1) := by decide +kernel
theorem dX1_isSign_6 : decode cX1_isSign 6 = .ok (.getfield 15, 3) := by decide +kernel
theorem dX1_isSign_9 : decode cX1_isSign 9 = .ok (.if_icmp .ge 27, 3) := by decide +kernel
theorem dX1_isSign_12 : decode cX1_isSign 12 = .ok (.aload_n 0, 1) := by decide +kernel
theorem dX1_isSign_13 : decode cX1_isSign 13 = .ok (.getfield 9, 3) := by decide +kernel
theorem dX1_isSign_16 : decode cX1_isSign 16 = .ok (.iload_n 1, 1) := by decide +kernel
theorem dX1_isSign_17 : decode cX1_isSign 17 = .ok (.baload, 1) := by decide +kernel
theorem dX1_isSign_18 : decode cX1_isSign 18 = .ok (.iload_n 2, 1) := by decide +kernel
theorem dX1_isSign_19 : decode cX1_isSign 19 = .ok (.if_icmp .lt 17, 3) := by decide +kernel
theorem dX1_isSign_22 : decode cX1_isSign 22 = .ok (.aload_n 0, 1) := by decide +kernel
theorem dX1_isSign_23 : decode cX1_isSign 23 = .ok (.getfield 9, 3) := by decide +kernel
theorem dX1_isSign_26 : decode cX1_isSign 26 = .ok (.iload_n 1, 1) := by decide +kernel
theorem dX1_isSign_27 : decode cX1_isSign 27 = .ok (.baload, 1) := by decide +kernel
theorem dX1_isSign_28 : decode cX1_isSign 28 = .ok (.iload_n 3, 1) := by decide +kernel
theorem dX1_isSign_29 : decode cX1_isSign 29 = .ok (.if_icmp .gt 7, 3) := by decide +kernel
theorem dX1_isSign_32 : decode cX1_isSign 32 = .ok (.iconst 1, 1) := by decide +kernel
theorem dX1_isSign_33 : decode cX1_isSign 33 = .ok (.goto 4, 3) := by decide +kernel
theorem dX1_isSign_36 : decode cX1_isSign 36 = .ok (.iconst 0, 1) := by decide +kernel
theorem dX1_isSign_37 : decode cX1_isSign 37 = .ok (.ireturn, 1) := by decide +kernel
set_option maxRecDepth 20000 in
theorem ggX2_init_X0_init : GoodIn wsX2_init wsX0_init := goodIn_r _ [9, 10, 2, 3, 11, 12, 13, 15, 16] (by decide +kernel) (by decide +kernel)
set_option maxRecDepth 20000 in
theorem gX2_init_X0_init_n17 : GoodIn wsX2_init (wsX0_init) := ggX2_init_X0_init
theorem dX2_init_0 : decode cX2_init 0 = .ok (.aload_n 0, 1) := by decide +kernel
theorem dX2_init_1 : decode cX2_init 1 = .ok (.invokespecial 3, 3) := by decide +kernel
theorem dX2_init_4 : decode cX2_init 4 = .ok (.aload_n 0, 1) := by decide +kernel
theorem dX2_init_5 : decode cX2_init 5 = .ok (.iconst 4, 1) := by decide +kernel
theorem dX2_init_6 : decode cX2_init 6 = .ok (.anewarray 9, 3) := by decide +kernel
theorem dX2_init_9 : decode cX2_init 9 = .ok (.putfield 11, 3) := by decide +kernel
theorem dX2_init_12 : decode cX2_init 12 = .ok (.iconst 0, 1) := by decide +kernel
theorem dX2_init_13 : decode cX2_init 13 = .ok (.istore_n 1, 1) := by decide +kernel
theorem dX2_init_14 : decode cX2_init 14 = .ok (.iload_n 1, 1) := by decide +kernel
theorem dX2_init_15 : decode cX2_init 15 = .ok (.iconst 4, 1) := by decide +kernel
theorem dX2_init_16 : decode cX2_init 16 = .ok (.if_icmp .ge 22, 3) := by decide +kernel
theorem dX2_init_19 : decode cX2_init 19 = .ok (.aload_n 0, 1) := by decide +kernel
theorem dX2_init_20 : decode cX2_init 20 = .ok (.getfield 11, 3) := by decide +kernel
theorem dX2_init_23 : decode cX2_init 23 = .ok (.iload_n 1, 1) := by decide +kernel
theorem dX2_init_24 : decode cX2_init 24 = .ok (.new 9, 3) := by decide +kernel
theorem dX2_init_27 : decode cX2_init 27 = .ok (.dup, 1) := by decide +kernel
theorem dX2_init_28 : decode cX2_init 28 = .ok (.invokespecial 17, 3) := by decide +kernel
theorem dX2_init_31 : decode cX2_init 31 = .ok (.aastore, 1) := by decide +kernel
theorem dX2_init_32 : decode cX2_init 32 = .ok (.iinc 1 1, 3) := by decide +kernel
theorem dX2_init_35 : decode cX2_init 35 = .ok (.goto (-21), 3) := by decide +kernel
theorem dX2_init_38 : decode cX2_init 38 = .ok (.return_, 1) := by decide +kernel
set_option maxRecDepth 20000 in
theorem ggX2_become_X0_become : GoodIn wsX2_become wsX0_become := goodIn_r _ [5, 6, 7, 8, 9, 10, 11, 13, 14] (by decide +kernel) (by decide +kernel)
set_option maxRecDepth 20000 in
theorem gX2_become_X0_become_n18 : GoodIn wsX2_become (wsX0_become) := ggX2_become_X0_become
theorem dX2_become_0 : decode cX2_become 0 = .ok (.iconst 0, 1) := by decide +kernel
theorem dX2_become_1 : decode cX2_become 1 = .ok (.istore_n 2, 1) := by decide +kernel
theorem dX2_become_2 : decode cX2_become 2 = .ok (.iload_n 2, 1) := by decide +kernel
theorem dX2_become_3 : decode cX2_become 3 = .ok (.iconst 4, 1) := by decide +kernel
theorem dX2_become_4 : decode cX2_become 4 = .ok (.if_icmp .ge 24, 3) := by decide +kernel
theorem dX2_become_7 : decode cX2_become 7 = .ok (.aload_n 0, 1) := by decide +kernel
theorem dX2_become_8 : decode cX2_become 8 = .ok (.getfield 11, 3) := by decide +kernel
theorem dX2_become_11 : decode cX2_become 11 = .ok (.iload_n 2, 1) := by decide +kernel
theorem dX2_become_12 : decode cX2_become 12 = .ok (.aaload, 1) := by decide +kernel
theorem dX2_become_13 : decode cX2_become 13 = .ok (.aload_n 1, 1) := by decide +kernel
theorem dX2_become_14 : decode cX2_become 14 = .ok (.getfield 11, 3) := by decide +kernel
theorem dX2_become_17 : decode cX2_become 17 = .ok (.iload_n 2, 1) := by decide +kernel
theorem dX2_become_18 : decode cX2_become 18 = .ok (.aaload, 1) := by decide +kernel
theorem dX2_become_19 : decode cX2_become 19 = .ok (.invokevirtual 18, 3) := by decide +kernel
theorem dX2_become_22 : decode cX2_become 22 = .ok (.iinc 2 1, 3) := by decide +kernel
theorem dX2_become_25 : decode cX2_become 25 = .ok (.goto (-23), 3) := by decide +kernel
theorem dX2_become_28 : decode cX2_become 28 = .ok (.return_, 1) := by decide +kernel
set_option maxRecDepth 20000 in
theorem ggX3_init_X2_init : GoodIn wsX3_init wsX2_init := goodIn_r _ [22, 23, 2, 3, 24, 25, 15, 16, 26, 27, 28, 29, 18, 30, 38, 49, 50] (by decide +kernel) (by decide +kernel)
set_option maxRecDepth 20000 in
theorem gX3_init_X2_init_n11 : GoodIn wsX3_init (wsX2_init) := ggX3_init_X2_init
set_option maxRecDepth 20000 in
theorem ggX3_init_X1_init : GoodIn wsX3_init wsX1_init := goodIn_r _ [32, 33, 2, 3, 34, 35, 36, 37, 46, 47, 48] (by decide +kernel) (by decide +kernel)
set_option maxRecDepth 20000 in
theorem gX3_init_X1_init_n26 : GoodIn wsX3_init (wsX1_init) := ggX3_init_X1_init
set_option maxRecDepth 20000 in
theorem ggX3_init_X0_init : GoodIn wsX3_init wsX0_init := goodIn_r _ [27, 28, 2, 3, 29, 18, 30, 49, 50] (by decide +kernel) (by decide +kernel)
set_option maxRecDepth 20000 in
theorem gX3_init_X0_init_n33 : GoodIn wsX3_init (wsX0_init) := ggX3_init_X0_init
