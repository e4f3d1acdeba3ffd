theorem dX4_init_0 : decode cX4_init 0 = .ok (.aload_n 0, 1) := by decide +kernel
theorem dX4_init_1 : decode cX4_init 1 = .ok (.invokespecial 1, 3) := by decide +kernel
theorem dX4_init_4 : decode cX4_init 4 = .ok (.aload_n 0, 1) := by decide +kernel
theorem dX4_init_5 : decode cX4_init 5 = .ok (.sipush 388, 3) := by decide +kernel
theorem dX4_init_8 : decode cX4_init 8 = .ok (.newarray .int, 2) := by decide +kernel
theorem dX4_init_10 : decode cX4_init 10 = .ok (.putfield 7, 3) := by decide +kernel
theorem dX4_init_13 : decode cX4_init 13 = .ok (.aload_n 0, 1) := by decide +kernel
theorem dX4_init_14 : decode cX4_init 14 = .ok (.sipush 1552, 3) := by decide +kernel
theorem dX4_init_17 : decode cX4_init 17 = .ok (.newarray .int, 2) := by decide +kernel
theorem dX4_init_19 : decode cX4_init 19 = .ok (.putfield 13, 3) := by decide +kernel
theorem dX4_init_22 : decode cX4_init 22 = .ok (.aload_n 0, 1) := by decide +kernel
theorem dX4_init_23 : decode cX4_init 23 = .ok (.sipush 388, 3) := by decide +kernel
theorem dX4_init_26 : decode cX4_init 26 = .ok (.newarray .int, 2) := by decide +kernel
theorem dX4_init_28 : decode cX4_init 28 = .ok (.putfield 16, 3) := by decide +kernel
theorem dX4_init_31 : decode cX4_init 31 = .ok (.aload_n 0, 1) := by decide +kernel
theorem dX4_init_32 : decode cX4_init 32 = .ok (.bipush 97, 2) := by decide +kernel
theorem dX4_init_34 : decode cX4_init 34 = .ok (.newarray .int, 2) := by decide +kernel
theorem dX4_init_36 : decode cX4_init 36 = .ok (.putfield 19, 3) := by decide +kernel
theorem dX4_init_39 : decode cX4_init 39 = .ok (.aload_n 0, 1) := by decide +kernel
theorem dX4_init_40 : decode cX4_init 40 = .ok (.sipush 150, 3) := by decide +kernel
theorem dX4_init_43 : decode cX4_init 43 = .ok (.newarray .int, 2) := by decide +kernel
theorem dX4_init_45 : decode cX4_init 45 = .ok (.putfield 22, 3) := by decide +kernel
theorem dX4_init_48 : decode cX4_init 48 = .ok (.aload_n 0, 1) := by decide +kernel
theorem dX4_init_49 : decode cX4_init 49 = .ok (.sipush 1000, 3) := by decide +kernel
theorem dX4_init_52 : decode cX4_init 52 = .ok (.newarray .int, 2) := by decide +kernel
theorem dX4_init_54 : decode cX4_init 54 = .ok (.putfield 25, 3) := by decide +kernel
theorem dX4_init_57 : decode cX4_init 57 = .ok (.aload_n 0, 1) := by decide +kernel
theorem dX4_init_58 : decode cX4_init 58 = .ok (.iconst 0, 1) := by decide +kernel
theorem dX4_init_59 : decode cX4_init 59 = .ok (.putfield 28, 3) := by decide +kernel
theorem dX4_init_62 : decode cX4_init 62 = .ok (.return_, 1) := by decide +kernel
theorem dX4_thrown_0 : decode cX4_thrown 0 = .ok (.aload_n 0, 1) := by decide +kernel
theorem dX4_thrown_1 : decode cX4_thrown 1 = .ok (.getfield 32, 3) := by decide +kernel
theorem dX4_thrown_4 : decode cX4_thrown 4 = .ok (.ireturn, 1) := by decide +kernel
theorem dX4_in_0 : decode cX4_in 0 = .ok (.iload_n 0, 1) := by decide +kernel
theorem dX4_in_1 : decode cX4_in 1 = .ok (.iload_n 1, 1) := by decide +kernel
theorem dX4_in_2 : decode cX4_in 2 = .ok (.if_icmp .lt 12, 3) := by decide +kernel
theorem dX4_in_5 : decode cX4_in 5 = .ok (.iload_n 0, 1) := by decide +kernel
theorem dX4_in_6 : decode cX4_in 6 = .ok (.iload_n 2, 1) := by decide +kernel
theorem dX4_in_7 : decode cX4_in 7 = .ok (.if_icmp .gt 7, 3) := by decide +kernel
theorem dX4_in_10 : decode cX4_in 10 = .ok (.iconst 1, 1) := by decide +kernel
theorem dX4_in_11 : decode cX4_in 11 = .ok (.goto 4, 3) := by decide +kernel
theorem dX4_in_14 : decode cX4_in 14 = .ok (.iconst 0, 1) := by decide +kernel
theorem dX4_in_15 : decode cX4_in 15 = .ok (.ireturn, 1) := by decide +kernel
theorem dX4_fails_0 : decode cX4_fails 0 = .ok (.aload_n 0, 1) := by decide +kernel
theorem dX4_fails_1 : decode cX4_fails 1 = .ok (.iload_n 1, 1) := by decide +kernel
theorem dX4_fails_2 : decode cX4_fails 2 = .ok (.putfield 32, 3) := by decide +kernel
theorem dX4_fails_5 : decode cX4_fails 5 = .ok (.iconst 0, 1) := by decide +kernel
theorem dX4_fails_6 : decode cX4_fails 6 = .ok (.ireturn, 1) := by decide +kernel
theorem dX4_tells_0 : decode cX4_tells 0 = .ok (.aload_n 0, 1) := by decide +kernel
theorem dX4_tells_1 : decode cX4_tells 1 = .ok (.iconst 0, 1) := by decide +kernel
theorem dX4_tells_2 : decode cX4_tells 2 = .ok (.putfield 32, 3) := by decide +kernel
theorem dX4_tells_5 : decode cX4_tells 5 = .ok (.iload_n 1, 1) := by decide +kernel
theorem dX4_tells_6 : decode cX4_tells 6 = .ok (.ireturn, 1) := by decide +kernel
theorem dX4_hold_0 : decode cX4_hold 0 = .ok (.iconst 0, 1) := by decide +kernel
theorem dX4_hold_1 : decode cX4_hold 1 = .ok (.istore_n 1, 1) := by decide +kernel
theorem dX4_hold_2 : decode cX4_hold 2 = .ok (.iload_n 1, 1) := by decide +kernel
theorem dX4_hold_3 : decode cX4_hold 3 = .ok (.sipush 388, 3) := by decide +kernel
theorem dX4_hold_6 : decode cX4_hold 6 = .ok (.if_icmp .ge 21, 3) := by decide +kernel
theorem dX4_hold_9 : decode cX4_hold 9 = .ok (.aload_n 0, 1) := by decide +kernel
theorem dX4_hold_10 : decode cX4_hold 10 = .ok (.getfield 16, 3) := by decide +kernel
theorem dX4_hold_13 : decode cX4_hold 13 = .ok (.iload_n 1, 1) := by decide +kernel
theorem dX4_hold_14 : decode cX4_hold 14 = .ok (.aload_n 0, 1) := by decide +kernel
theorem dX4_hold_15 : decode cX4_hold 15 = .ok (.getfield 7, 3) := by decide +kernel
theorem dX4_hold_18 : decode cX4_hold 18 = .ok (.iload_n 1, 1) := by decide +kernel
theorem dX4_hold_19 : decode cX4_hold 19 = .ok (.iaload, 1) := by decide +kernel
theorem dX4_hold_20 : decode cX4_hold 20 = .ok (.iastore, 1) := by decide +kernel
theorem dX4_hold_21 : decode cX4_hold 21 = .ok (.iinc 1 1, 3) := by decide +kernel
theorem dX4_hold_24 : decode cX4_hold 24 = .ok (.goto (-22), 3) := by decide +kernel
theorem dX4_hold_27 : decode cX4_hold 27 = .ok (.return_, 1) := by decide +kernel
set_option maxRecDepth 20000 in
theorem ggX4_ends_X4_tells : GoodIn wsX4_ends wsX4_tells := goodIn_r _ [8, 9, 10, 11, 12, 13, 14, 15, 16, 17, 18, 19, 20] (by decide +kernel) (by decide +kernel)
set_option maxRecDepth 20000 in
theorem gX4_ends_X4_tells : GoodIn wsX4_ends (wsV RX4 38 RX4 yX4_tells wsX4_tells) := goodIn_app (goodIn_of _ (by decide +kernel)) ggX4_ends_X4_tells
theorem dX4_ends_0 : decode cX4_ends 0 = .ok (.aload_n 0, 1) := by decide +kernel
theorem dX4_ends_1 : decode cX4_ends 1 = .ok (.getfield 35, 3) := by decide +kernel
theorem dX4_ends_4 : decode cX4_ends 4 = .ok (.iconst 4, 1) := by decide +kernel
theorem dX4_ends_5 : decode cX4_ends 5 = .ok (.if_icmp .ne 44, 3) := by decide +kernel
theorem dX4_ends_8 : decode cX4_ends 8 = .ok (.iconst 0, 1) := by decide +kernel
theorem dX4_ends_9 : decode cX4_ends 9 = .ok (.istore_n 2, 1) := by decide +kernel
theorem dX4_ends_10 : decode cX4_ends 10 = .ok (.iload_n 2, 1) := by decide +kernel
theorem dX4_ends_11 : decode cX4_ends 11 = .ok (.sipush 1164, 3) := by decide +kernel
theorem dX4_ends_14 : decode cX4_ends 14 = .ok (.if_icmp .ge 25, 3) := by decide +kernel
theorem dX4_ends_17 : decode cX4_ends 17 = .ok (.aload_n 0, 1) := by decide +kernel
theorem dX4_ends_18 : decode cX4_ends 18 = .ok (.getfield 13, 3) := by decide +kernel
theorem dX4_ends_21 : decode cX4_ends 21 = .ok (.iload_n 2, 1) := by decide +kernel
theorem dX4_ends_22 : decode cX4_ends 22 = .ok (.aload_n 0, 1) := by decide +kernel
theorem dX4_ends_23 : decode cX4_ends 23 = .ok (.getfield 13, 3) := by decide +kernel
theorem dX4_ends_26 : decode cX4_ends 26 = .ok (.iload_n 2, 1) := by decide +kernel
theorem dX4_ends_27 : decode cX4_ends 27 = .ok (.sipush 388, 3) := by decide +kernel
theorem dX4_ends_30 : decode cX4_ends 30 = .ok (.iadd, 1) := by decide +kernel
theorem dX4_ends_31 : decode cX4_ends 31 = .ok (.iaload, 1) := by decide +kernel
theorem dX4_ends_32 : decode cX4_ends 32 = .ok (.iastore, 1) := by decide +kernel
theorem dX4_ends_33 : decode cX4_ends 33 = .ok (.iinc 2 1, 3) := by decide +kernel
theorem dX4_ends_36 : decode cX4_ends 36 = .ok (.goto (-26), 3) := by decide +kernel
theorem dX4_ends_39 : decode cX4_ends 39 = .ok (.aload_n 0, 1) := by decide +kernel
theorem dX4_ends_40 : decode cX4_ends 40 = .ok (.dup, 1) := by decide +kernel
theorem dX4_ends_41 : decode cX4_ends 41 = .ok (.getfield 35, 3) := by decide +kernel
theorem dX4_ends_44 : decode cX4_ends 44 = .ok (.iconst 1, 1) := by decide +kernel
theorem dX4_ends_45 : decode cX4_ends 45 = .ok (.isub, 1) := by decide +kernel
theorem dX4_ends_46 : decode cX4_ends 46 = .ok (.putfield 35, 3) := by decide +kernel
theorem dX4_ends_49 : decode cX4_ends 49 = .ok (.iconst 0, 1) := by decide +kernel
theorem dX4_ends_50 : decode cX4_ends 50 = .ok (.istore_n 2, 1) := by decide +kernel
theorem dX4_ends_51 : decode cX4_ends 51 = .ok (.iload_n 2, 1) := by decide +kernel
theorem dX4_ends_52 : decode cX4_ends 52 = .ok (.sipush 388, 3) := by decide +kernel
theorem dX4_ends_55 : decode cX4_ends 55 = .ok (.if_icmp .ge 30, 3) := by decide +kernel
theorem dX4_ends_58 : decode cX4_ends 58 = .ok (.aload_n 0, 1) := by decide +kernel
theorem dX4_ends_59 : decode cX4_ends 59 = .ok (.getfield 13, 3) := by decide +kernel
theorem dX4_ends_62 : decode cX4_ends 62 = .ok (.sipush 388, 3) := by decide +kernel
theorem dX4_ends_65 : decode cX4_ends 65 = .ok (.aload_n 0, 1) := by decide +kernel
theorem dX4_ends_66 : decode cX4_ends 66 = .ok (.getfield 35, 3) := by decide +kernel
theorem dX4_ends_69 : decode cX4_ends 69 = .ok (.imul, 1) := by decide +kernel
theorem dX4_ends_70 : decode cX4_ends 70 = .ok (.iload_n 2, 1) := by decide +kernel
theorem dX4_ends_71 : decode cX4_ends 71 = .ok (.iadd, 1) := by decide +kernel
theorem dX4_ends_72 : decode cX4_ends 72 = .ok (.aload_n 0, 1) := by decide +kernel
theorem dX4_ends_73 : decode cX4_ends 73 = .ok (.getfield 16, 3) := by decide +kernel
theorem dX4_ends_76 : decode cX4_ends 76 = .ok (.iload_n 2, 1) := by decide +kernel
theorem dX4_ends_77 : decode cX4_ends 77 = .ok (.iaload, 1) := by decide +kernel
theorem dX4_ends_78 : decode cX4_ends 78 = .ok (.iastore, 1) := by decide +kernel
theorem dX4_ends_79 : decode cX4_ends 79 = .ok (.iinc 2 1, 3) := by decide +kernel
theorem dX4_ends_82 : decode cX4_ends 82 = .ok (.goto (-31), 3) := by decide +kernel
theorem dX4_ends_85 : decode cX4_ends 85 = .ok (.aload_n 0, 1) := by decide +kernel
theorem dX4_ends_86 : decode cX4_ends 86 = .ok (.dup, 1) := by decide +kernel
theorem dX4_ends_87 : decode cX4_ends 87 = .ok (.getfield 35, 3) := by decide +kernel
theorem dX4_ends_90 : decode cX4_ends 90 = .ok (.iconst 1, 1) := by decide +kernel
theorem dX4_ends_91 : decode cX4_ends 91 = .ok (.iadd, 1) := by decide +kernel
theorem dX4_ends_92 : decode cX4_ends 92 = .ok (.putfield 35, 3) := by decide +kernel
theorem dX4_ends_95 : decode cX4_ends 95 = .ok (.aload_n 0, 1) := by decide +kernel
theorem dX4_ends_96 : decode cX4_ends 96 = .ok (.iload_n 1, 1) := by decide +kernel
theorem dX4_ends_97 : decode cX4_ends 97 = .ok (.invokevirtual 38, 3) := by decide +kernel
theorem dX4_ends_100 : decode cX4_ends 100 = .ok (.ireturn, 1) := by decide +kernel
set_option maxRecDepth 20000 in
theorem ggX4_isCurve_X4_in : GoodIn wsX4_isCurve wsX4_in := goodIn_r _ [4] (by decide +kernel) (by decide +kernel)
set_option maxRecDepth 20000 in
theorem gX4_isCurve_X4_in : GoodIn wsX4_isCurve (va_wsS RX4 42 yX4_in wsX4_in) := goodIn_app (goodIn_of _ (by decide +kernel)) ggX4_isCurve_X4_in
theorem dX4_isCurve_0 : decode cX4_isCurve 0 = .ok (.iload_n 0, 1) := by decide +kernel
theorem dX4_isCurve_1 : decode cX4_isCurve 1 = .ok (.iconst 0, 1) := by decide +kernel
theorem dX4_isCurve_2 : decode cX4_isCurve 2 = .ok (.iconst 3, 1) := by decide +kernel
theorem dX4_isCurve_3 : decode cX4_isCurve 3 = .ok (.invokestatic 42, 3) := by decide +kernel
theorem dX4_isCurve_6 : decode cX4_isCurve 6 = .ok (.ireturn, 1) := by decide +kernel
theorem dX4_many_0 : decode cX4_many 0 = .ok (.aload_n 0, 1) := by decide +kernel
theorem dX4_many_1 : decode cX4_many 1 = .ok (.getfield 7, 3) := by decide +kernel
theorem dX4_many_4 : decode cX4_many 4 = .ok (.bipush 97, 2) := by decide +kernel
theorem dX4_many_6 : decode cX4_many 6 = .ok (.iload_n 1, 1) := by decide +kernel
theorem dX4_many_7 : decode cX4_many 7 = .ok (.imul, 1) := by decide +kernel
theorem dX4_many_8 : decode cX4_many 8 = .ok (.iaload, 1) := by decide +kernel
theorem dX4_many_9 : decode cX4_many 9 = .ok (.ireturn, 1) := by decide +kernel
set_option maxRecDepth 20000 in
theorem ggX4_isKey_X4_isCurve : GoodIn wsX4_isKey wsX4_isCurve := goodIn_r _ [4, 5, 6, 3, 7] (by decide +kernel) (by decide +kernel)
set_option maxRecDepth 20000 in
theorem gX4_isKey_X4_isCurve : GoodIn wsX4_isKey (va_wsS RX4 46 yX4_isCurve wsX4_isCurve) := goodIn_app (goodIn_of _ (by decide +kernel)) ggX4_isKey_X4_isCurve
set_option maxRecDepth 20000 in
theorem ggX4_isKey_X4_many : GoodIn wsX4_isKey wsX4_many := goodIn_r _ [11, 12, 13, 14, 15, 16, 17, 18, 19, 20, 21, 22, 23] (by decide +kernel) (by decide +kernel)
set_option maxRecDepth 20000 in
theorem gX4_isKey_X4_many : GoodIn wsX4_isKey (wsV RX4 50 RX4 yX4_many wsX4_many) := goodIn_app (goodIn_of _ (by decide +kernel)) ggX4_isKey_X4_many
set_option maxRecDepth 20000 in
theorem ggX4_isKey_X4_in : GoodIn wsX4_isKey wsX4_in := goodIn_r _ [7] (by decide +kernel) (by decide +kernel)
set_option maxRecDepth 20000 in
theorem gX4_isKey_X4_in : GoodIn wsX4_isKey (va_wsS RX4 42 yX4_in wsX4_in) := goodIn_app (goodIn_of _ (by decide +kernel)) ggX4_isKey_X4_in
theorem dX4_isKey_0 : decode cX4_isKey 0 = .ok (.iload_n 1, 1) := by decide +kernel
theorem dX4_isKey_1 : decode cX4_isKey 1 = .ok (.invokestatic 46, 3) := by decide +kernel
theorem dX4_isKey_4 : decode cX4_isKey 4 = .ok (.ifCond .eq 22, 3) := by decide +kernel
theorem dX4_isKey_7 : decode cX4_isKey 7 = .ok (.iload_n 2, 1) := by decide +kernel
theorem dX4_isKey_8 : decode cX4_isKey 8 = .ok (.iconst 0, 1) := by decide +kernel
theorem dX4_isKey_9 : decode cX4_isKey 9 = .ok (.aload_n 0, 1) := by decide +kernel
theorem dX4_isKey_10 : decode cX4_isKey 10 = .ok (.iload_n 1, 1) := by decide +kernel
theorem dX4_isKey_11 : decode cX4_isKey 11 = .ok (.invokevirtual 50, 3) := by decide +kernel
theorem dX4_isKey_14 : decode cX4_isKey 14 = .ok (.iconst 1, 1) := by decide +kernel
theorem dX4_isKey_15 : decode cX4_isKey 15 = .ok (.isub, 1) := by decide +kernel
theorem dX4_isKey_16 : decode cX4_isKey 16 = .ok (.invokestatic 42, 3) := by decide +kernel
theorem dX4_isKey_19 : decode cX4_isKey 19 = .ok (.ifCond .eq 7, 3) := by decide +kernel
theorem dX4_isKey_22 : decode cX4_isKey 22 = .ok (.iconst 1, 1) := by decide +kernel
theorem dX4_isKey_23 : decode cX4_isKey 23 = .ok (.goto 4, 3) := by decide +kernel
theorem dX4_isKey_26 : decode cX4_isKey 26 = .ok (.iconst 0, 1) := by decide +kernel
theorem dX4_isKey_27 : decode cX4_isKey 27 = .ok (.ireturn, 1) := by decide +kernel
theorem dX4_spot_0 : decode cX4_spot 0 = .ok (.bipush 97, 2) := by decide +kernel
theorem dX4_spot_2 : decode cX4_spot 2 = .ok (.iload_n 0, 1) := by decide +kernel
theorem dX4_spot_3 : decode cX4_spot 3 = .ok (.imul, 1) := by decide +kernel
theorem dX4_spot_4 : decode cX4_spot 4 = .ok (.iconst 1, 1) := by decide +kernel
theorem dX4_spot_5 : decode cX4_spot 5 = .ok (.iadd, 1) := by decide +kernel
theorem dX4_spot_6 : decode cX4_spot 6 = .ok (.bipush 6, 2) := by decide +kernel
theorem dX4_spot_8 : decode cX4_spot 8 = .ok (.iload_n 1, 1) := by decide +kernel
theorem dX4_spot_9 : decode cX4_spot 9 = .ok (.imul, 1) := by decide +kernel
theorem dX4_spot_10 : decode cX4_spot 10 = .ok (.iadd, 1) := by decide +kernel
theorem dX4_spot_11 : decode cX4_spot 11 = .ok (.ireturn, 1) := by decide +kernel
set_option maxRecDepth 20000 in
theorem ggX4_of_X4_spot : GoodIn wsX4_of wsX4_spot := goodIn_r _ [5] (by decide +kernel) (by decide +kernel)
set_option maxRecDepth 20000 in
theorem gX4_of_X4_spot : GoodIn wsX4_of (va_wsS RX4 53 yX4_spot wsX4_spot) := goodIn_app (goodIn_of _ (by decide +kernel)) ggX4_of_X4_spot
theorem dX4_of_0 : decode cX4_of 0 = .ok (.aload_n 0, 1) := by decide +kernel
theorem dX4_of_1 : decode cX4_of 1 = .ok (.getfield 7, 3) := by decide +kernel
theorem dX4_of_4 : decode cX4_of 4 = .ok (.iload_n 1, 1) := by decide +kernel
theorem dX4_of_5 : decode cX4_of 5 = .ok (.iload_n 2, 1) := by decide +kernel
theorem dX4_of_6 : decode cX4_of 6 = .ok (.invokestatic 53, 3) := by decide +kernel
theorem dX4_of_9 : decode cX4_of 9 = .ok (.iload_n 3, 1) := by decide +kernel
theorem dX4_of_10 : decode cX4_of 10 = .ok (.iadd, 1) := by decide +kernel
theorem dX4_of_11 : decode cX4_of 11 = .ok (.iaload, 1) := by decide +kernel
theorem dX4_of_12 : decode cX4_of 12 = .ok (.ireturn, 1) := by decide +kernel
set_option maxRecDepth 20000 in
theorem ggX4_isFrame_X4_in : GoodIn wsX4_isFrame wsX4_in := goodIn_r _ [4] (by decide +kernel) (by decide +kernel)
set_option maxRecDepth 20000 in
theorem gX4_isFrame_X4_in : GoodIn wsX4_isFrame (va_wsS RX4 42 yX4_in wsX4_in) := goodIn_app (goodIn_of _ (by decide +kernel)) ggX4_isFrame_X4_in
theorem dX4_isFrame_0 : decode cX4_isFrame 0 = .ok (.iload_n 0, 1) := by decide +kernel
theorem dX4_isFrame_1 : decode cX4_isFrame 1 = .ok (.iconst 0, 1) := by decide +kernel
theorem dX4_isFrame_2 : decode cX4_isFrame 2 = .ok (.sipush 999, 3) := by decide +kernel
theorem dX4_isFrame_5 : decode cX4_isFrame 5 = .ok (.invokestatic 42, 3) := by decide +kernel
theorem dX4_isFrame_8 : decode cX4_isFrame 8 = .ok (.ireturn, 1) := by decide +kernel
set_option maxRecDepth 20000 in
theorem ggX4_isValue_X4_in : GoodIn wsX4_isValue wsX4_in := goodIn_r _ [4] (by decide +kernel) (by decide +kernel)
set_option maxRecDepth 20000 in
theorem gX4_isValue_X4_in : GoodIn wsX4_isValue (va_wsS RX4 42 yX4_in wsX4_in) := goodIn_app (goodIn_of _ (by decide +kernel)) ggX4_isValue_X4_in
theorem dX4_isValue_0 : decode cX4_isValue 0 = .ok (.iload_n 0, 1) := by decide +kernel
theorem dX4_isValue_1 : decode cX4_isValue 1 = .ok (.sipush (-9999), 3) := by decide +kernel
theorem dX4_isValue_4 : decode cX4_isValue 4 = .ok (.sipush 9999, 3) := by decide +kernel
theorem dX4_isValue_7 : decode cX4_isValue 7 = .ok (.invokestatic 42, 3) := by decide +kernel
theorem dX4_isValue_10 : decode cX4_isValue 10 = .ok (.ireturn, 1) := by decide +kernel
set_option maxRecDepth 20000 in
theorem ggX4_keyAt_X4_many : GoodIn wsX4_keyAt wsX4_many := goodIn_r _ [5, 6, 14, 15, 16, 17, 18, 19, 20, 21, 22, 23, 24] (by decide +kernel) (by decide +kernel)
set_option maxRecDepth 20000 in
theorem gX4_keyAt_X4_many : GoodIn wsX4_keyAt (wsV RX4 50 RX4 yX4_many wsX4_many) := goodIn_app (goodIn_of _ (by decide +kernel)) ggX4_keyAt_X4_many
set_option maxRecDepth 20000 in
theorem ggX4_keyAt_X4_of : GoodIn wsX4_keyAt wsX4_of := goodIn_r _ [10, 6, 11, 12, 4, 13, 14, 15, 16, 17, 18, 19, 20, 21, 22, 23, 24] (by decide +kernel) (by decide +kernel)
set_option maxRecDepth 20000 in
theorem gX4_keyAt_X4_of : GoodIn wsX4_keyAt (wsV RX4 57 RX4 yX4_of wsX4_of) := goodIn_app (goodIn_of _ (by decide +kernel)) ggX4_keyAt_X4_of
theorem dX4_keyAt_0 : decode cX4_keyAt 0 = .ok (.iconst 0, 1) := by decide +kernel
theorem dX4_keyAt_1 : decode cX4_keyAt 1 = .ok (.istore_n 3, 1) := by decide +kernel
theorem dX4_keyAt_2 : decode cX4_keyAt 2 = .ok (.iload_n 3, 1) := by decide +kernel
theorem dX4_keyAt_3 : decode cX4_keyAt 3 = .ok (.aload_n 0, 1) := by decide +kernel
theorem dX4_keyAt_4 : decode cX4_keyAt 4 = .ok (.iload_n 1, 1) := by decide +kernel
theorem dX4_keyAt_5 : decode cX4_keyAt 5 = .ok (.invokevirtual 50, 3) := by decide +kernel
theorem dX4_keyAt_8 : decode cX4_keyAt 8 = .ok (.if_icmp .ge 22, 3) := by decide +kernel
theorem dX4_keyAt_11 : decode cX4_keyAt 11 = .ok (.aload_n 0, 1) := by decide +kernel
theorem dX4_keyAt_12 : decode cX4_keyAt 12 = .ok (.iload_n 1, 1) := by decide +kernel
theorem dX4_keyAt_13 : decode cX4_keyAt 13 = .ok (.iload_n 3, 1) := by decide +kernel
theorem dX4_keyAt_14 : decode cX4_keyAt 14 = .ok (.iconst 0, 1) := by decide +kernel
theorem dX4_keyAt_15 : decode cX4_keyAt 15 = .ok (.invokevirtual 57, 3) := by decide +kernel
theorem dX4_keyAt_18 : decode cX4_keyAt 18 = .ok (.iload_n 2, 1) := by decide +kernel
theorem dX4_keyAt_19 : decode cX4_keyAt 19 = .ok (.if_icmp .ne 5, 3) := by decide +kernel
theorem dX4_keyAt_22 : decode cX4_keyAt 22 = .ok (.iload_n 3, 1) := by decide +kernel
theorem dX4_keyAt_23 : decode cX4_keyAt 23 = .ok (.ireturn, 1) := by decide +kernel
theorem dX4_keyAt_24 : decode cX4_keyAt 24 = .ok (.iinc 3 1, 3) := by decide +kernel
theorem dX4_keyAt_27 : decode cX4_keyAt 27 = .ok (.goto (-25), 3) := by decide +kernel
theorem dX4_keyAt_30 : decode cX4_keyAt 30 = .ok (.iconst (-1), 1) := by decide +kernel
theorem dX4_keyAt_31 : decode cX4_keyAt 31 = .ok (.ireturn, 1) := by decide +kernel
set_option maxRecDepth 20000 in
theorem ggX4_hasLock_X4_many : GoodIn wsX4_hasLock wsX4_many := goodIn_r _ [5, 6, 14, 15, 16, 17, 18, 19, 20, 21, 22, 23, 24] (by decide +kernel) (by decide +kernel)
set_option maxRecDepth 20000 in
theorem gX4_hasLock_X4_many : GoodIn wsX4_hasLock (wsV RX4 50 RX4 yX4_many wsX4_many) := goodIn_app (goodIn_of _ (by decide +kernel)) ggX4_hasLock_X4_many
set_option maxRecDepth 20000 in
theorem ggX4_hasLock_X4_of : GoodIn wsX4_hasLock wsX4_of := goodIn_r _ [10, 6, 11, 12, 4, 13, 14, 15, 16, 17, 18, 19, 20, 21, 22, 23, 24] (by decide +kernel) (by decide +kernel)
set_option maxRecDepth 20000 in
theorem gX4_hasLock_X4_of : GoodIn wsX4_hasLock (wsV RX4 57 RX4 yX4_of wsX4_of) := goodIn_app (goodIn_of _ (by decide +kernel)) ggX4_hasLock_X4_of
theorem dX4_hasLock_0 : decode cX4_hasLock 0 = .ok (.iconst 0, 1) := by decide +kernel
theorem dX4_hasLock_1 : decode cX4_hasLock 1 = .ok (.istore_n 2, 1) := by decide +kernel
theorem dX4_hasLock_2 : decode cX4_hasLock 2 = .ok (.iconst 0, 1) := by decide +kernel
theorem dX4_hasLock_3 : decode cX4_hasLock 3 = .ok (.istore_n 3, 1) := by decide +kernel
theorem dX4_hasLock_4 : decode cX4_hasLock 4 = .ok (.iload_n 3, 1) := by decide +kernel
theorem dX4_hasLock_5 : decode cX4_hasLock 5 = .ok (.aload_n 0, 1) := by decide +kernel
theorem dX4_hasLock_6 : decode cX4_hasLock 6 = .ok (.iload_n 1, 1) := by decide +kernel
theorem dX4_hasLock_7 : decode cX4_hasLock 7 = .ok (.invokevirtual 50, 3) := by decide +kernel
theorem dX4_hasLock_10 : decode cX4_hasLock 10 = .ok (.if_icmp .ge 30, 3) := by decide +kernel
theorem dX4_hasLock_13 : decode cX4_hasLock 13 = .ok (.iload_n 2, 1) := by decide +kernel
theorem dX4_hasLock_14 : decode cX4_hasLock 14 = .ok (.ifCond .ne 14, 3) := by decide +kernel
theorem dX4_hasLock_17 : decode cX4_hasLock 17 = .ok (.aload_n 0, 1) := by decide +kernel
theorem dX4_hasLock_18 : decode cX4_hasLock 18 = .ok (.iload_n 1, 1) := by decide +kernel
theorem dX4_hasLock_19 : decode cX4_hasLock 19 = .ok (.iload_n 3, 1) := by decide +kernel
theorem dX4_hasLock_20 : decode cX4_hasLock 20 = .ok (.iconst 5, 1) := by decide +kernel
theorem dX4_hasLock_21 : decode cX4_hasLock 21 = .ok (.invokevirtual 57, 3) := by decide +kernel
theorem dX4_hasLock_24 : decode cX4_hasLock 24 = .ok (.iconst 1, 1) := by decide +kernel
theorem dX4_hasLock_25 : decode cX4_hasLock 25 = .ok (.if_icmp .ne 7, 3) := by decide +kernel
theorem dX4_hasLock_28 : decode cX4_hasLock 28 = .ok (.iconst 1, 1) := by decide +kernel
theorem dX4_hasLock_29 : decode cX4_hasLock 29 = .ok (.goto 4, 3) := by decide +kernel
theorem dX4_hasLock_32 : decode cX4_hasLock 32 = .ok (.iconst 0, 1) := by decide +kernel
theorem dX4_hasLock_33 : decode cX4_hasLock 33 = .ok (.istore_n 2, 1) := by decide +kernel
theorem dX4_hasLock_34 : decode cX4_hasLock 34 = .ok (.iinc 3 1, 3) := by decide +kernel
theorem dX4_hasLock_37 : decode cX4_hasLock 37 = .ok (.goto (-33), 3) := by decide +kernel
theorem dX4_hasLock_40 : decode cX4_hasLock 40 = .ok (.iload_n 2, 1) := by decide +kernel
theorem dX4_hasLock_41 : decode cX4_hasLock 41 = .ok (.ireturn, 1) := by decide +kernel
set_option maxRecDepth 20000 in
theorem ggX4_tangent_X4_of : GoodIn wsX4_tangent wsX4_of := goodIn_r _ [5, 6, 7, 8, 4, 9, 14, 15, 16, 17, 18, 19, 20, 21, 22, 23, 24] (by decide +kernel) (by decide +kernel)
set_option maxRecDepth 20000 in
theorem gX4_tangent_X4_of : GoodIn wsX4_tangent (wsV RX4 57 RX4 yX4_of wsX4_of) := goodIn_app (goodIn_of _ (by decide +kernel)) ggX4_tangent_X4_of
set_option maxRecDepth 20000 in
theorem ggX4_tangent_X4_many : GoodIn wsX4_tangent wsX4_many := goodIn_r _ [13, 6, 14, 15, 16, 17, 18, 19, 20, 21, 22, 23, 24] (by decide +kernel) (by decide +kernel)
set_option maxRecDepth 20000 in
theorem gX4_tangent_X4_many : GoodIn wsX4_tangent (wsV RX4 50 RX4 yX4_many wsX4_many) := goodIn_app (goodIn_of _ (by decide +kernel)) ggX4_tangent_X4_many
theorem dX4_tangent_0 : decode cX4_tangent 0 = .ok (.aload_n 0, 1) := by decide +kernel
theorem dX4_tangent_1 : decode cX4_tangent 1 = .ok (.iload_n 1, 1) := by decide +kernel
theorem dX4_tangent_2 : decode cX4_tangent 2 = .ok (.iload_n 2, 1) := by decide +kernel
theorem dX4_tangent_3 : decode cX4_tangent 3 = .ok (.iconst 3, 1) := by decide +kernel
theorem dX4_tangent_4 : decode cX4_tangent 4 = .ok (.invokevirtual 57, 3) := by decide +kernel
theorem dX4_tangent_7 : decode cX4_tangent 7 = .ok (.istore_n 3, 1) := by decide +kernel
theorem dX4_tangent_8 : decode cX4_tangent 8 = .ok (.iload_n 3, 1) := by decide +kernel
theorem dX4_tangent_9 : decode cX4_tangent 9 = .ok (.ifCond .ne 11, 3) := by decide +kernel
theorem dX4_tangent_12 : decode cX4_tangent 12 = .ok (.aload_n 0, 1) := by decide +kernel
theorem dX4_tangent_13 : decode cX4_tangent 13 = .ok (.iload_n 1, 1) := by decide +kernel
theorem dX4_tangent_14 : decode cX4_tangent 14 = .ok (.iload_n 2, 1) := by decide +kernel
theorem dX4_tangent_15 : decode cX4_tangent 15 = .ok (.iconst 4, 1) := by decide +kernel
theorem dX4_tangent_16 : decode cX4_tangent 16 = .ok (.invokevirtual 57, 3) := by decide +kernel
theorem dX4_tangent_19 : decode cX4_tangent 19 = .ok (.ireturn, 1) := by decide +kernel
theorem dX4_tangent_20 : decode cX4_tangent 20 = .ok (.iload_n 2, 1) := by decide +kernel
theorem dX4_tangent_21 : decode cX4_tangent 21 = .ok (.ifCond .eq 14, 3) := by decide +kernel
theorem dX4_tangent_24 : decode cX4_tangent 24 = .ok (.iload_n 2, 1) := by decide +kernel
theorem dX4_tangent_25 : decode cX4_tangent 25 = .ok (.aload_n 0, 1) := by decide +kernel
theorem dX4_tangent_26 : decode cX4_tangent 26 = .ok (.iload_n 1, 1) := by decide +kernel
theorem dX4_tangent_27 : decode cX4_tangent 27 = .ok (.invokevirtual 50, 3) := by decide +kernel
theorem dX4_tangent_30 : decode cX4_tangent 30 = .ok (.iconst 1, 1) := by decide +kernel
theorem dX4_tangent_31 : decode cX4_tangent 31 = .ok (.isub, 1) := by decide +kernel
theorem dX4_tangent_32 : decode cX4_tangent 32 = .ok (.if_icmp .ne 5, 3) := by decide +kernel
theorem dX4_tangent_35 : decode cX4_tangent 35 = .ok (.iconst 0, 1) := by decide +kernel
theorem dX4_tangent_36 : decode cX4_tangent 36 = .ok (.ireturn, 1) := by decide +kernel
theorem dX4_tangent_37 : decode cX4_tangent 37 = .ok (.aload_n 0, 1) := by decide +kernel
theorem dX4_tangent_38 : decode cX4_tangent 38 = .ok (.iload_n 1, 1) := by decide +kernel
theorem dX4_tangent_39 : decode cX4_tangent 39 = .ok (.iload_n 2, 1) := by decide +kernel
theorem dX4_tangent_40 : decode cX4_tangent 40 = .ok (.iconst 1, 1) := by decide +kernel
theorem dX4_tangent_41 : decode cX4_tangent 41 = .ok (.isub, 1) := by decide +kernel
theorem dX4_tangent_42 : decode cX4_tangent 42 = .ok (.iconst 1, 1) := by decide +kernel
theorem dX4_tangent_43 : decode cX4_tangent 43 = .ok (.invokevirtual 57, 3) := by decide +kernel
theorem dX4_tangent_46 : decode cX4_tangent 46 = .ok (.istore 4, 2) := by decide +kernel
theorem dX4_tangent_48 : decode cX4_tangent 48 = .ok (.aload_n 0, 1) := by decide +kernel
theorem dX4_tangent_49 : decode cX4_tangent 49 = .ok (.iload_n 1, 1) := by decide +kernel
theorem dX4_tangent_50 : decode cX4_tangent 50 = .ok (.iload_n 2, 1) := by decide +kernel
theorem dX4_tangent_51 : decode cX4_tangent 51 = .ok (.iconst 1, 1) := by decide +kernel
theorem dX4_tangent_52 : decode cX4_tangent 52 = .ok (.invokevirtual 57, 3) := by decide +kernel
theorem dX4_tangent_55 : decode cX4_tangent 55 = .ok (.istore 5, 2) := by decide +kernel
theorem dX4_tangent_57 : decode cX4_tangent 57 = .ok (.aload_n 0, 1) := by decide +kernel
theorem dX4_tangent_58 : decode cX4_tangent 58 = .ok (.iload_n 1, 1) := by decide +kernel
theorem dX4_tangent_59 : decode cX4_tangent 59 = .ok (.iload_n 2, 1) := by decide +kernel
theorem dX4_tangent_60 : decode cX4_tangent 60 = .ok (.iconst 1, 1) := by decide +kernel
theorem dX4_tangent_61 : decode cX4_tangent 61 = .ok (.iadd, 1) := by decide +kernel
theorem dX4_tangent_62 : decode cX4_tangent 62 = .ok (.iconst 1, 1) := by decide +kernel
theorem dX4_tangent_63 : decode cX4_tangent 63 = .ok (.invokevirtual 57, 3) := by decide +kernel
theorem dX4_tangent_66 : decode cX4_tangent 66 = .ok (.istore 6, 2) := by decide +kernel
theorem dX4_tangent_68 : decode cX4_tangent 68 = .ok (.iload 4, 2) := by decide +kernel
theorem dX4_tangent_70 : decode cX4_tangent 70 = .ok (.iload 5, 2) := by decide +kernel
theorem dX4_tangent_72 : decode cX4_tangent 72 = .ok (.if_icmp .gt 10, 3) := by decide +kernel
theorem dX4_tangent_75 : decode cX4_tangent 75 = .ok (.iload 6, 2) := by decide +kernel
theorem dX4_tangent_77 : decode cX4_tangent 77 = .ok (.iload 5, 2) := by decide +kernel
theorem dX4_tangent_79 : decode cX4_tangent 79 = .ok (.if_icmp .le 17, 3) := by decide +kernel
theorem dX4_tangent_82 : decode cX4_tangent 82 = .ok (.iload 4, 2) := by decide +kernel
theorem dX4_tangent_84 : decode cX4_tangent 84 = .ok (.iload 5, 2) := by decide +kernel
theorem dX4_tangent_86 : decode cX4_tangent 86 = .ok (.if_icmp .lt 14, 3) := by decide +kernel
theorem dX4_tangent_89 : decode cX4_tangent 89 = .ok (.iload 6, 2) := by decide +kernel
theorem dX4_tangent_91 : decode cX4_tangent 91 = .ok (.iload 5, 2) := by decide +kernel
theorem dX4_tangent_93 : decode cX4_tangent 93 = .ok (.if_icmp .lt 7, 3) := by decide +kernel
theorem dX4_tangent_96 : decode cX4_tangent 96 = .ok (.iconst 1, 1) := by decide +kernel
theorem dX4_tangent_97 : decode cX4_tangent 97 = .ok (.goto 4, 3) := by decide +kernel
theorem dX4_tangent_100 : decode cX4_tangent 100 = .ok (.iconst 0, 1) := by decide +kernel
theorem dX4_tangent_101 : decode cX4_tangent 101 = .ok (.istore 7, 2) := by decide +kernel
theorem dX4_tangent_103 : decode cX4_tangent 103 = .ok (.iload_n 3, 1) := by decide +kernel
theorem dX4_tangent_104 : decode cX4_tangent 104 = .ok (.iconst 2, 1) := by decide +kernel
theorem dX4_tangent_105 : decode cX4_tangent 105 = .ok (.if_icmp .ne 12, 3) := by decide +kernel
theorem dX4_tangent_108 : decode cX4_tangent 108 = .ok (.iload 7, 2) := by decide +kernel
theorem dX4_tangent_110 : decode cX4_tangent 110 = .ok (.ifCond .eq 7, 3) := by decide +kernel
theorem dX4_tangent_113 : decode cX4_tangent 113 = .ok (.iconst 0, 1) := by decide +kernel
theorem dX4_tangent_114 : decode cX4_tangent 114 = .ok (.goto 32, 3) := by decide +kernel
theorem dX4_tangent_117 : decode cX4_tangent 117 = .ok (.sipush 1000, 3) := by decide +kernel
theorem dX4_tangent_120 : decode cX4_tangent 120 = .ok (.iload 6, 2) := by decide +kernel
theorem dX4_tangent_122 : decode cX4_tangent 122 = .ok (.iload 4, 2) := by decide +kernel
theorem dX4_tangent_124 : decode cX4_tangent 124 = .ok (.isub, 1) := by decide +kernel
theorem dX4_tangent_125 : decode cX4_tangent 125 = .ok (.imul, 1) := by decide +kernel
theorem dX4_tangent_126 : decode cX4_tangent 126 = .ok (.aload_n 0, 1) := by decide +kernel
theorem dX4_tangent_127 : decode cX4_tangent 127 = .ok (.iload_n 1, 1) := by decide +kernel
theorem dX4_tangent_128 : decode cX4_tangent 128 = .ok (.iload_n 2, 1) := by decide +kernel
theorem dX4_tangent_129 : decode cX4_tangent 129 = .ok (.iconst 1, 1) := by decide +kernel
theorem dX4_tangent_130 : decode cX4_tangent 130 = .ok (.iadd, 1) := by decide +kernel
theorem dX4_tangent_131 : decode cX4_tangent 131 = .ok (.iconst 0, 1) := by decide +kernel
theorem dX4_tangent_132 : decode cX4_tangent 132 = .ok (.invokevirtual 57, 3) := by decide +kernel
theorem dX4_tangent_135 : decode cX4_tangent 135 = .ok (.aload_n 0, 1) := by decide +kernel
theorem dX4_tangent_136 : decode cX4_tangent 136 = .ok (.iload_n 1, 1) := by decide +kernel
theorem dX4_tangent_137 : decode cX4_tangent 137 = .ok (.iload_n 2, 1) := by decide +kernel
theorem dX4_tangent_138 : decode cX4_tangent 138 = .ok (.iconst 1, 1) := by decide +kernel
theorem dX4_tangent_139 : decode cX4_tangent 139 = .ok (.isub, 1) := by decide +kernel
theorem dX4_tangent_140 : decode cX4_tangent 140 = .ok (.iconst 0, 1) := by decide +kernel
theorem dX4_tangent_141 : decode cX4_tangent 141 = .ok (.invokevirtual 57, 3) := by decide +kernel
theorem dX4_tangent_144 : decode cX4_tangent 144 = .ok (.isub, 1) := by decide +kernel
theorem dX4_tangent_145 : decode cX4_tangent 145 = .ok (.idiv, 1) := by decide +kernel
theorem dX4_tangent_146 : decode cX4_tangent 146 = .ok (.ireturn, 1) := by decide +kernel
set_option maxRecDepth 20000 in
theorem ggX4_valueAt_X4_many : GoodIn wsX4_valueAt wsX4_many := goodIn_r _ [11, 12, 24, 25, 26, 27, 28, 29, 30, 31, 32, 33, 34] (by decide +kernel) (by decide +kernel)
set_option maxRecDepth 20000 in
theorem gX4_valueAt_X4_many : GoodIn wsX4_valueAt (wsV RX4 50 RX4 yX4_many wsX4_many) := goodIn_app (goodIn_of _ (by decide +kernel)) ggX4_valueAt_X4_many
set_option maxRecDepth 20000 in
theorem ggX4_valueAt_X4_of : GoodIn wsX4_valueAt wsX4_of := goodIn_r _ [16, 12, 17, 18, 10, 19, 24, 25, 26, 27, 28, 29, 30, 31, 32, 33, 34] (by decide +kernel) (by decide +kernel)
set_option maxRecDepth 20000 in
theorem gX4_valueAt_X4_of : GoodIn wsX4_valueAt (wsV RX4 57 RX4 yX4_of wsX4_of) := goodIn_app (goodIn_of _ (by decide +kernel)) ggX4_valueAt_X4_of
set_option maxRecDepth 20000 in
theorem ggX4_valueAt_X4_tangent : GoodIn wsX4_valueAt wsX4_tangent := goodIn_r _ [23, 13, 14, 15, 10, 16, 12, 17, 18, 19, 7, 8, 9, 11, 24, 25, 26, 27, 28, 29, 30, 31, 32, 33, 34] (by decide +kernel) (by decide +kernel)
set_option maxRecDepth 20000 in
theorem gX4_valueAt_X4_tangent : GoodIn wsX4_valueAt (wsV RX4 71 RX4 yX4_tangent wsX4_tangent) := goodIn_app (goodIn_of _ (by decide +kernel)) ggX4_valueAt_X4_tangent
theorem dX4_valueAt_0 : decode cX4_valueAt 0 = .ok (.aload_n 0, 1) := by decide +kernel
theorem dX4_valueAt_1 : decode cX4_valueAt 1 = .ok (.iload_n 1, 1) := by decide +kernel
theorem dX4_valueAt_2 : decode cX4_valueAt 2 = .ok (.invokevirtual 50, 3) := by decide +kernel
theorem dX4_valueAt_5 : decode cX4_valueAt 5 = .ok (.iconst 1, 1) := by decide +kernel
theorem dX4_valueAt_6 : decode cX4_valueAt 6 = .ok (.isub, 1) := by decide +kernel
theorem dX4_valueAt_7 : decode cX4_valueAt 7 = .ok (.istore_n 3, 1) := by decide +kernel
theorem dX4_valueAt_8 : decode cX4_valueAt 8 = .ok (.iload_n 3, 1) := by decide +kernel
theorem dX4_valueAt_9 : decode cX4_valueAt 9 = .ok (.ifCond .ge 5, 3) := by decide +kernel
theorem dX4_valueAt_12 : decode cX4_valueAt 12 = .ok (.iconst 0, 1) := by decide +kernel
theorem dX4_valueAt_13 : decode cX4_valueAt 13 = .ok (.ireturn, 1) := by decide +kernel
theorem dX4_valueAt_14 : decode cX4_valueAt 14 = .ok (.iload_n 2, 1) := by decide +kernel
theorem dX4_valueAt_15 : decode cX4_valueAt 15 = .ok (.aload_n 0, 1) := by decide +kernel
theorem dX4_valueAt_16 : decode cX4_valueAt 16 = .ok (.iload_n 1, 1) := by decide +kernel
theorem dX4_valueAt_17 : decode cX4_valueAt 17 = .ok (.iconst 0, 1) := by decide +kernel
theorem dX4_valueAt_18 : decode cX4_valueAt 18 = .ok (.iconst 0, 1) := by decide +kernel
theorem dX4_valueAt_19 : decode cX4_valueAt 19 = .ok (.invokevirtual 57, 3) := by decide +kernel
theorem dX4_valueAt_22 : decode cX4_valueAt 22 = .ok (.if_icmp .ge 11, 3) := by decide +kernel
theorem dX4_valueAt_25 : decode cX4_valueAt 25 = .ok (.aload_n 0, 1) := by decide +kernel
theorem dX4_valueAt_26 : decode cX4_valueAt 26 = .ok (.iload_n 1, 1) := by decide +kernel
theorem dX4_valueAt_27 : decode cX4_valueAt 27 = .ok (.iconst 0, 1) := by decide +kernel
theorem dX4_valueAt_28 : decode cX4_valueAt 28 = .ok (.iconst 1, 1) := by decide +kernel
theorem dX4_valueAt_29 : decode cX4_valueAt 29 = .ok (.invokevirtual 57, 3) := by decide +kernel
theorem dX4_valueAt_32 : decode cX4_valueAt 32 = .ok (.ireturn, 1) := by decide +kernel
theorem dX4_valueAt_33 : decode cX4_valueAt 33 = .ok (.iconst 0, 1) := by decide +kernel
theorem dX4_valueAt_34 : decode cX4_valueAt 34 = .ok (.istore 4, 2) := by decide +kernel
theorem dX4_valueAt_36 : decode cX4_valueAt 36 = .ok (.iload 4, 2) := by decide +kernel
theorem dX4_valueAt_38 : decode cX4_valueAt 38 = .ok (.iload_n 3, 1) := by decide +kernel
theorem dX4_valueAt_39 : decode cX4_valueAt 39 = .ok (.if_icmp .ge 23, 3) := by decide +kernel
theorem dX4_valueAt_42 : decode cX4_valueAt 42 = .ok (.aload_n 0, 1) := by decide +kernel
theorem dX4_valueAt_43 : decode cX4_valueAt 43 = .ok (.iload_n 1, 1) := by decide +kernel
theorem dX4_valueAt_44 : decode cX4_valueAt 44 = .ok (.iload 4, 2) := by decide +kernel
theorem dX4_valueAt_46 : decode cX4_valueAt 46 = .ok (.iconst 1, 1) := by decide +kernel
theorem dX4_valueAt_47 : decode cX4_valueAt 47 = .ok (.iadd, 1) := by decide +kernel
theorem dX4_valueAt_48 : decode cX4_valueAt 48 = .ok (.iconst 0, 1) := by decide +kernel
theorem dX4_valueAt_49 : decode cX4_valueAt 49 = .ok (.invokevirtual 57, 3) := by decide +kernel
theorem dX4_valueAt_52 : decode cX4_valueAt 52 = .ok (.iload_n 2, 1) := by decide +kernel
theorem dX4_valueAt_53 : decode cX4_valueAt 53 = .ok (.if_icmp .gt 9, 3) := by decide +kernel
theorem dX4_valueAt_56 : decode cX4_valueAt 56 = .ok (.iinc 4 1, 3) := by decide +kernel
theorem dX4_valueAt_59 : decode cX4_valueAt 59 = .ok (.goto (-23), 3) := by decide +kernel
theorem dX4_valueAt_62 : decode cX4_valueAt 62 = .ok (.aload_n 0, 1) := by decide +kernel
theorem dX4_valueAt_63 : decode cX4_valueAt 63 = .ok (.iload_n 1, 1) := by decide +kernel
theorem dX4_valueAt_64 : decode cX4_valueAt 64 = .ok (.iload 4, 2) := by decide +kernel
theorem dX4_valueAt_66 : decode cX4_valueAt 66 = .ok (.iconst 1, 1) := by decide +kernel
theorem dX4_valueAt_67 : decode cX4_valueAt 67 = .ok (.invokevirtual 57, 3) := by decide +kernel
theorem dX4_valueAt_70 : decode cX4_valueAt 70 = .ok (.istore 5, 2) := by decide +kernel
theorem dX4_valueAt_72 : decode cX4_valueAt 72 = .ok (.iload 4, 2) := by decide +kernel
theorem dX4_valueAt_74 : decode cX4_valueAt 74 = .ok (.iload_n 3, 1) := by decide +kernel
theorem dX4_valueAt_75 : decode cX4_valueAt 75 = .ok (.if_icmp .ne 6, 3) := by decide +kernel
theorem dX4_valueAt_78 : decode cX4_valueAt 78 = .ok (.iload 5, 2) := by decide +kernel
theorem dX4_valueAt_80 : decode cX4_valueAt 80 = .ok (.ireturn, 1) := by decide +kernel
theorem dX4_valueAt_81 : decode cX4_valueAt 81 = .ok (.aload_n 0, 1) := by decide +kernel
theorem dX4_valueAt_82 : decode cX4_valueAt 82 = .ok (.iload_n 1, 1) := by decide +kernel
theorem dX4_valueAt_83 : decode cX4_valueAt 83 = .ok (.iload 4, 2) := by decide +kernel
theorem dX4_valueAt_85 : decode cX4_valueAt 85 = .ok (.iconst 1, 1) := by decide +kernel
theorem dX4_valueAt_86 : decode cX4_valueAt 86 = .ok (.iadd, 1) := by decide +kernel
theorem dX4_valueAt_87 : decode cX4_valueAt 87 = .ok (.iconst 0, 1) := by decide +kernel
theorem dX4_valueAt_88 : decode cX4_valueAt 88 = .ok (.invokevirtual 57, 3) := by decide +kernel
theorem dX4_valueAt_91 : decode cX4_valueAt 91 = .ok (.aload_n 0, 1) := by decide +kernel
theorem dX4_valueAt_92 : decode cX4_valueAt 92 = .ok (.iload_n 1, 1) := by decide +kernel
theorem dX4_valueAt_93 : decode cX4_valueAt 93 = .ok (.iload 4, 2) := by decide +kernel
theorem dX4_valueAt_95 : decode cX4_valueAt 95 = .ok (.iconst 0, 1) := by decide +kernel
theorem dX4_valueAt_96 : decode cX4_valueAt 96 = .ok (.invokevirtual 57, 3) := by decide +kernel
theorem dX4_valueAt_99 : decode cX4_valueAt 99 = .ok (.isub, 1) := by decide +kernel
theorem dX4_valueAt_100 : decode cX4_valueAt 100 = .ok (.i2l, 1) := by decide +kernel
theorem dX4_valueAt_101 : decode cX4_valueAt 101 = .ok (.lstore 6, 2) := by decide +kernel
theorem dX4_valueAt_103 : decode cX4_valueAt 103 = .ok (.ldc2_w 61, 3) := by decide +kernel
theorem dX4_valueAt_106 : decode cX4_valueAt 106 = .ok (.iload_n 2, 1) := by decide +kernel
theorem dX4_valueAt_107 : decode cX4_valueAt 107 = .ok (.aload_n 0, 1) := by decide +kernel
theorem dX4_valueAt_108 : decode cX4_valueAt 108 = .ok (.iload_n 1, 1) := by decide +kernel
theorem dX4_valueAt_109 : decode cX4_valueAt 109 = .ok (.iload 4, 2) := by decide +kernel
theorem dX4_valueAt_111 : decode cX4_valueAt 111 = .ok (.iconst 0, 1) := by decide +kernel
theorem dX4_valueAt_112 : decode cX4_valueAt 112 = .ok (.invokevirtual 57, 3) := by decide +kernel
theorem dX4_valueAt_115 : decode cX4_valueAt 115 = .ok (.isub, 1) := by decide +kernel
theorem dX4_valueAt_116 : decode cX4_valueAt 116 = .ok (.i2l, 1) := by decide +kernel
theorem dX4_valueAt_117 : decode cX4_valueAt 117 = .ok (.lmul, 1) := by decide +kernel
theorem dX4_valueAt_118 : decode cX4_valueAt 118 = .ok (.lload 6, 2) := by decide +kernel
theorem dX4_valueAt_120 : decode cX4_valueAt 120 = .ok (.ldiv, 1) := by decide +kernel
theorem dX4_valueAt_121 : decode cX4_valueAt 121 = .ok (.lstore 8, 2) := by decide +kernel
theorem dX4_valueAt_123 : decode cX4_valueAt 123 = .ok (.aload_n 0, 1) := by decide +kernel
theorem dX4_valueAt_124 : decode cX4_valueAt 124 = .ok (.iload_n 1, 1) := by decide +kernel
theorem dX4_valueAt_125 : decode cX4_valueAt 125 = .ok (.iload 4, 2) := by decide +kernel
theorem dX4_valueAt_127 : decode cX4_valueAt 127 = .ok (.iconst 1, 1) := by decide +kernel
theorem dX4_valueAt_128 : decode cX4_valueAt 128 = .ok (.iadd, 1) := by decide +kernel
theorem dX4_valueAt_129 : decode cX4_valueAt 129 = .ok (.iconst 1, 1) := by decide +kernel
theorem dX4_valueAt_130 : decode cX4_valueAt 130 = .ok (.invokevirtual 57, 3) := by decide +kernel
theorem dX4_valueAt_133 : decode cX4_valueAt 133 = .ok (.iload 5, 2) := by decide +kernel
theorem dX4_valueAt_135 : decode cX4_valueAt 135 = .ok (.isub, 1) := by decide +kernel
theorem dX4_valueAt_136 : decode cX4_valueAt 136 = .ok (.i2l, 1) := by decide +kernel
theorem dX4_valueAt_137 : decode cX4_valueAt 137 = .ok (.lstore 10, 2) := by decide +kernel
theorem dX4_valueAt_139 : decode cX4_valueAt 139 = .ok (.aload_n 0, 1) := by decide +kernel
theorem dX4_valueAt_140 : decode cX4_valueAt 140 = .ok (.iload_n 1, 1) := by decide +kernel
theorem dX4_valueAt_141 : decode cX4_valueAt 141 = .ok (.iload 4, 2) := by decide +kernel
theorem dX4_valueAt_143 : decode cX4_valueAt 143 = .ok (.iconst 2, 1) := by decide +kernel
theorem dX4_valueAt_144 : decode cX4_valueAt 144 = .ok (.invokevirtual 57, 3) := by decide +kernel
theorem dX4_valueAt_147 : decode cX4_valueAt 147 = .ok (.tableswitch 124 0 4 #[33, 36, 50, 67, 96], 33) := by decide +kernel
theorem dX4_valueAt_180 : decode cX4_valueAt 180 = .ok (.iload 5, 2) := by decide +kernel
theorem dX4_valueAt_182 : decode cX4_valueAt 182 = .ok (.ireturn, 1) := by decide +kernel
theorem dX4_valueAt_183 : decode cX4_valueAt 183 = .ok (.iload 5, 2) := by decide +kernel
theorem dX4_valueAt_185 : decode cX4_valueAt 185 = .ok (.lload 10, 2) := by decide +kernel
theorem dX4_valueAt_187 : decode cX4_valueAt 187 = .ok (.lload 8, 2) := by decide +kernel
theorem dX4_valueAt_189 : decode cX4_valueAt 189 = .ok (.lmul, 1) := by decide +kernel
theorem dX4_valueAt_190 : decode cX4_valueAt 190 = .ok (.ldc2_w 61, 3) := by decide +kernel
theorem dX4_valueAt_193 : decode cX4_valueAt 193 = .ok (.ldiv, 1) := by decide +kernel
theorem dX4_valueAt_194 : decode cX4_valueAt 194 = .ok (.l2i, 1) := by decide +kernel
theorem dX4_valueAt_195 : decode cX4_valueAt 195 = .ok (.iadd, 1) := by decide +kernel
theorem dX4_valueAt_196 : decode cX4_valueAt 196 = .ok (.ireturn, 1) := by decide +kernel
theorem dX4_valueAt_197 : decode cX4_valueAt 197 = .ok (.iload 5, 2) := by decide +kernel
theorem dX4_valueAt_199 : decode cX4_valueAt 199 = .ok (.lload 10, 2) := by decide +kernel
theorem dX4_valueAt_201 : decode cX4_valueAt 201 = .ok (.lload 8, 2) := by decide +kernel
theorem dX4_valueAt_203 : decode cX4_valueAt 203 = .ok (.lmul, 1) := by decide +kernel
theorem dX4_valueAt_204 : decode cX4_valueAt 204 = .ok (.lload 8, 2) := by decide +kernel
theorem dX4_valueAt_206 : decode cX4_valueAt 206 = .ok (.lmul, 1) := by decide +kernel
theorem dX4_valueAt_207 : decode cX4_valueAt 207 = .ok (.ldc2_w 63, 3) := by decide +kernel
theorem dX4_valueAt_210 : decode cX4_valueAt 210 = .ok (.ldiv, 1) := by decide +kernel
theorem dX4_valueAt_211 : decode cX4_valueAt 211 = .ok (.l2i, 1) := by decide +kernel
theorem dX4_valueAt_212 : decode cX4_valueAt 212 = .ok (.iadd, 1) := by decide +kernel
theorem dX4_valueAt_213 : decode cX4_valueAt 213 = .ok (.ireturn, 1) := by decide +kernel
theorem dX4_valueAt_214 : decode cX4_valueAt 214 = .ok (.iload 5, 2) := by decide +kernel
theorem dX4_valueAt_216 : decode cX4_valueAt 216 = .ok (.lload 10, 2) := by decide +kernel
theorem dX4_valueAt_218 : decode cX4_valueAt 218 = .ok (.ldc2_w 63, 3) := by decide +kernel
theorem dX4_valueAt_221 : decode cX4_valueAt 221 = .ok (.ldc2_w 61, 3) := by decide +kernel
theorem dX4_valueAt_224 : decode cX4_valueAt 224 = .ok (.lload 8, 2) := by decide +kernel
theorem dX4_valueAt_226 : decode cX4_valueAt 226 = .ok (.lsub, 1) := by decide +kernel
theorem dX4_valueAt_227 : decode cX4_valueAt 227 = .ok (.ldc2_w 61, 3) := by decide +kernel
theorem dX4_valueAt_230 : decode cX4_valueAt 230 = .ok (.lload 8, 2) := by decide +kernel
theorem dX4_valueAt_232 : decode cX4_valueAt 232 = .ok (.lsub, 1) := by decide +kernel
theorem dX4_valueAt_233 : decode cX4_valueAt 233 = .ok (.lmul, 1) := by decide +kernel
theorem dX4_valueAt_234 : decode cX4_valueAt 234 = .ok (.lsub, 1) := by decide +kernel
theorem dX4_valueAt_235 : decode cX4_valueAt 235 = .ok (.lmul, 1) := by decide +kernel
theorem dX4_valueAt_236 : decode cX4_valueAt 236 = .ok (.ldc2_w 63, 3) := by decide +kernel
theorem dX4_valueAt_239 : decode cX4_valueAt 239 = .ok (.ldiv, 1) := by decide +kernel
theorem dX4_valueAt_240 : decode cX4_valueAt 240 = .ok (.l2i, 1) := by decide +kernel
theorem dX4_valueAt_241 : decode cX4_valueAt 241 = .ok (.iadd, 1) := by decide +kernel
theorem dX4_valueAt_242 : decode cX4_valueAt 242 = .ok (.ireturn, 1) := by decide +kernel
theorem dX4_valueAt_243 : decode cX4_valueAt 243 = .ok (.iload 5, 2) := by decide +kernel
theorem dX4_valueAt_245 : decode cX4_valueAt 245 = .ok (.lload 10, 2) := by decide +kernel
theorem dX4_valueAt_247 : decode cX4_valueAt 247 = .ok (.lload 8, 2) := by decide +kernel
theorem dX4_valueAt_249 : decode cX4_valueAt 249 = .ok (.lmul, 1) := by decide +kernel
theorem dX4_valueAt_250 : decode cX4_valueAt 250 = .ok (.lload 8, 2) := by decide +kernel
theorem dX4_valueAt_252 : decode cX4_valueAt 252 = .ok (.lmul, 1) := by decide +kernel
theorem dX4_valueAt_253 : decode cX4_valueAt 253 = .ok (.ldc2_w 65, 3) := by decide +kernel
theorem dX4_valueAt_256 : decode cX4_valueAt 256 = .ok (.ldc2_w 67, 3) := by decide +kernel
theorem dX4_valueAt_259 : decode cX4_valueAt 259 = .ok (.lload 8, 2) := by decide +kernel
theorem dX4_valueAt_261 : decode cX4_valueAt 261 = .ok (.lmul, 1) := by decide +kernel
theorem dX4_valueAt_262 : decode cX4_valueAt 262 = .ok (.lsub, 1) := by decide +kernel
theorem dX4_valueAt_263 : decode cX4_valueAt 263 = .ok (.lmul, 1) := by decide +kernel
theorem dX4_valueAt_264 : decode cX4_valueAt 264 = .ok (.ldc2_w 69, 3) := by decide +kernel
theorem dX4_valueAt_267 : decode cX4_valueAt 267 = .ok (.ldiv, 1) := by decide +kernel
theorem dX4_valueAt_268 : decode cX4_valueAt 268 = .ok (.l2i, 1) := by decide +kernel
theorem dX4_valueAt_269 : decode cX4_valueAt 269 = .ok (.iadd, 1) := by decide +kernel
theorem dX4_valueAt_270 : decode cX4_valueAt 270 = .ok (.ireturn, 1) := by decide +kernel
theorem dX4_valueAt_271 : decode cX4_valueAt 271 = .ok (.lload 6, 2) := by decide +kernel
theorem dX4_valueAt_273 : decode cX4_valueAt 273 = .ok (.aload_n 0, 1) := by decide +kernel
theorem dX4_valueAt_274 : decode cX4_valueAt 274 = .ok (.iload_n 1, 1) := by decide +kernel
theorem dX4_valueAt_275 : decode cX4_valueAt 275 = .ok (.iload 4, 2) := by decide +kernel
theorem dX4_valueAt_277 : decode cX4_valueAt 277 = .ok (.invokevirtual 71, 3) := by decide +kernel
theorem dX4_valueAt_280 : decode cX4_valueAt 280 = .ok (.i2l, 1) := by decide +kernel
theorem dX4_valueAt_281 : decode cX4_valueAt 281 = .ok (.lmul, 1) := by decide +kernel
theorem dX4_valueAt_282 : decode cX4_valueAt 282 = .ok (.ldc2_w 61, 3) := by decide +kernel
theorem dX4_valueAt_285 : decode cX4_valueAt 285 = .ok (.ldiv, 1) := by decide +kernel
theorem dX4_valueAt_286 : decode cX4_valueAt 286 = .ok (.lstore 12, 2) := by decide +kernel
theorem dX4_valueAt_288 : decode cX4_valueAt 288 = .ok (.lload 6, 2) := by decide +kernel
theorem dX4_valueAt_290 : decode cX4_valueAt 290 = .ok (.aload_n 0, 1) := by decide +kernel
theorem dX4_valueAt_291 : decode cX4_valueAt 291 = .ok (.iload_n 1, 1) := by decide +kernel
theorem dX4_valueAt_292 : decode cX4_valueAt 292 = .ok (.iload 4, 2) := by decide +kernel
theorem dX4_valueAt_294 : decode cX4_valueAt 294 = .ok (.iconst 1, 1) := by decide +kernel
theorem dX4_valueAt_295 : decode cX4_valueAt 295 = .ok (.iadd, 1) := by decide +kernel
theorem dX4_valueAt_296 : decode cX4_valueAt 296 = .ok (.invokevirtual 71, 3) := by decide +kernel
theorem dX4_valueAt_299 : decode cX4_valueAt 299 = .ok (.i2l, 1) := by decide +kernel
theorem dX4_valueAt_300 : decode cX4_valueAt 300 = .ok (.lmul, 1) := by decide +kernel
theorem dX4_valueAt_301 : decode cX4_valueAt 301 = .ok (.ldc2_w 61, 3) := by decide +kernel
theorem dX4_valueAt_304 : decode cX4_valueAt 304 = .ok (.ldiv, 1) := by decide +kernel
theorem dX4_valueAt_305 : decode cX4_valueAt 305 = .ok (.lstore 14, 2) := by decide +kernel
theorem dX4_valueAt_307 : decode cX4_valueAt 307 = .ok (.lload 8, 2) := by decide +kernel
theorem dX4_valueAt_309 : decode cX4_valueAt 309 = .ok (.lload 8, 2) := by decide +kernel
theorem dX4_valueAt_311 : decode cX4_valueAt 311 = .ok (.lmul, 1) := by decide +kernel
theorem dX4_valueAt_312 : decode cX4_valueAt 312 = .ok (.lload 8, 2) := by decide +kernel
theorem dX4_valueAt_314 : decode cX4_valueAt 314 = .ok (.lmul, 1) := by decide +kernel
theorem dX4_valueAt_315 : decode cX4_valueAt 315 = .ok (.lstore 16, 2) := by decide +kernel
theorem dX4_valueAt_317 : decode cX4_valueAt 317 = .ok (.lload 8, 2) := by decide +kernel
theorem dX4_valueAt_319 : decode cX4_valueAt 319 = .ok (.lload 8, 2) := by decide +kernel
theorem dX4_valueAt_321 : decode cX4_valueAt 321 = .ok (.lmul, 1) := by decide +kernel
theorem dX4_valueAt_322 : decode cX4_valueAt 322 = .ok (.lstore 18, 2) := by decide +kernel
theorem dX4_valueAt_324 : decode cX4_valueAt 324 = .ok (.iload 5, 2) := by decide +kernel
theorem dX4_valueAt_326 : decode cX4_valueAt 326 = .ok (.lload 10, 2) := by decide +kernel
theorem dX4_valueAt_328 : decode cX4_valueAt 328 = .ok (.ldc2_w 65, 3) := by decide +kernel
theorem dX4_valueAt_331 : decode cX4_valueAt 331 = .ok (.lload 18, 2) := by decide +kernel
theorem dX4_valueAt_333 : decode cX4_valueAt 333 = .ok (.lmul, 1) := by decide +kernel
theorem dX4_valueAt_334 : decode cX4_valueAt 334 = .ok (.ldc2_w 67, 3) := by decide +kernel
theorem dX4_valueAt_337 : decode cX4_valueAt 337 = .ok (.lload 16, 2) := by decide +kernel
theorem dX4_valueAt_339 : decode cX4_valueAt 339 = .ok (.lmul, 1) := by decide +kernel
theorem dX4_valueAt_340 : decode cX4_valueAt 340 = .ok (.lsub, 1) := by decide +kernel
theorem dX4_valueAt_341 : decode cX4_valueAt 341 = .ok (.lmul, 1) := by decide +kernel
theorem dX4_valueAt_342 : decode cX4_valueAt 342 = .ok (.lload 12, 2) := by decide +kernel
theorem dX4_valueAt_344 : decode cX4_valueAt 344 = .ok (.lload 16, 2) := by decide +kernel
theorem dX4_valueAt_346 : decode cX4_valueAt 346 = .ok (.ldc2_w 74, 3) := by decide +kernel
theorem dX4_valueAt_349 : decode cX4_valueAt 349 = .ok (.lload 18, 2) := by decide +kernel
theorem dX4_valueAt_351 : decode cX4_valueAt 351 = .ok (.lmul, 1) := by decide +kernel
theorem dX4_valueAt_352 : decode cX4_valueAt 352 = .ok (.lsub, 1) := by decide +kernel
theorem dX4_valueAt_353 : decode cX4_valueAt 353 = .ok (.ldc2_w 63, 3) := by decide +kernel
theorem dX4_valueAt_356 : decode cX4_valueAt 356 = .ok (.lload 8, 2) := by decide +kernel
theorem dX4_valueAt_358 : decode cX4_valueAt 358 = .ok (.lmul, 1) := by decide +kernel
theorem dX4_valueAt_359 : decode cX4_valueAt 359 = .ok (.ladd, 1) := by decide +kernel
theorem dX4_valueAt_360 : decode cX4_valueAt 360 = .ok (.lmul, 1) := by decide +kernel
theorem dX4_valueAt_361 : decode cX4_valueAt 361 = .ok (.ladd, 1) := by decide +kernel
theorem dX4_valueAt_362 : decode cX4_valueAt 362 = .ok (.lload 14, 2) := by decide +kernel
theorem dX4_valueAt_364 : decode cX4_valueAt 364 = .ok (.lload 16, 2) := by decide +kernel
theorem dX4_valueAt_366 : decode cX4_valueAt 366 = .ok (.ldc2_w 61, 3) := by decide +kernel
theorem dX4_valueAt_369 : decode cX4_valueAt 369 = .ok (.lload 18, 2) := by decide +kernel
theorem dX4_valueAt_371 : decode cX4_valueAt 371 = .ok (.lmul, 1) := by decide +kernel
theorem dX4_valueAt_372 : decode cX4_valueAt 372 = .ok (.lsub, 1) := by decide +kernel
theorem dX4_valueAt_373 : decode cX4_valueAt 373 = .ok (.lmul, 1) := by decide +kernel
theorem dX4_valueAt_374 : decode cX4_valueAt 374 = .ok (.ladd, 1) := by decide +kernel
theorem dX4_valueAt_375 : decode cX4_valueAt 375 = .ok (.ldc2_w 69, 3) := by decide +kernel
theorem dX4_valueAt_378 : decode cX4_valueAt 378 = .ok (.ldiv, 1) := by decide +kernel
theorem dX4_valueAt_379 : decode cX4_valueAt 379 = .ok (.l2i, 1) := by decide +kernel
theorem dX4_valueAt_380 : decode cX4_valueAt 380 = .ok (.iadd, 1) := by decide +kernel
theorem dX4_valueAt_381 : decode cX4_valueAt 381 = .ok (.ireturn, 1) := by decide +kernel
set_option maxRecDepth 20000 in
theorem ggX4_bakes_X4_valueAt : GoodIn wsX4_bakes wsX4_valueAt := goodIn_r _ [6, 7, 8, 9, 10, 11, 12, 13, 14, 15, 5, 16, 17, 18, 19, 20, 21, 22, 23, 24, 25, 26, 27, 28, 29, 30, 31, 32, 33, 34, 35, 36, 37, 38, 39] (by decide +kernel) (by decide +kernel)
set_option maxRecDepth 20000 in
theorem gX4_bakes_X4_valueAt : GoodIn wsX4_bakes (wsV RX4 76 RX4 yX4_valueAt wsX4_valueAt) := goodIn_app (goodIn_of _ (by decide +kernel)) ggX4_bakes_X4_valueAt
theorem dX4_bakes_0 : decode cX4_bakes 0 = .ok (.iconst 0, 1) := by decide +kernel
theorem dX4_bakes_1 : decode cX4_bakes 1 = .ok (.istore_n 2, 1) := by decide +kernel
theorem dX4_bakes_2 : decode cX4_bakes 2 = .ok (.iload_n 2, 1) := by decide +kernel
theorem dX4_bakes_3 : decode cX4_bakes 3 = .ok (.sipush 999, 3) := by decide +kernel
theorem dX4_bakes_6 : decode cX4_bakes 6 = .ok (.if_icmp .gt 21, 3) := by decide +kernel
theorem dX4_bakes_9 : decode cX4_bakes 9 = .ok (.aload_n 0, 1) := by decide +kernel
theorem dX4_bakes_10 : decode cX4_bakes 10 = .ok (.getfield 25, 3) := by decide +kernel
theorem dX4_bakes_13 : decode cX4_bakes 13 = .ok (.iload_n 2, 1) := by decide +kernel
theorem dX4_bakes_14 : decode cX4_bakes 14 = .ok (.aload_n 0, 1) := by decide +kernel
theorem dX4_bakes_15 : decode cX4_bakes 15 = .ok (.iload_n 1, 1) := by decide +kernel
theorem dX4_bakes_16 : decode cX4_bakes 16 = .ok (.iload_n 2, 1) := by decide +kernel
theorem dX4_bakes_17 : decode cX4_bakes 17 = .ok (.invokevirtual 76, 3) := by decide +kernel
theorem dX4_bakes_20 : decode cX4_bakes 20 = .ok (.iastore, 1) := by decide +kernel
theorem dX4_bakes_21 : decode cX4_bakes 21 = .ok (.iinc 2 1, 3) := by decide +kernel
theorem dX4_bakes_24 : decode cX4_bakes 24 = .ok (.goto (-22), 3) := by decide +kernel
theorem dX4_bakes_27 : decode cX4_bakes 27 = .ok (.return_, 1) := by decide +kernel
set_option maxRecDepth 20000 in
theorem ggX4_comes_X4_many : GoodIn wsX4_comes wsX4_many := goodIn_r _ [6, 1, 14, 15, 16, 17, 18, 19, 20, 21, 22, 23, 24] (by decide +kernel) (by decide +kernel)
set_option maxRecDepth 20000 in
theorem gX4_comes_X4_many : GoodIn wsX4_comes (wsV RX4 50 RX4 yX4_many wsX4_many) := goodIn_app (goodIn_of _ (by decide +kernel)) ggX4_comes_X4_many
set_option maxRecDepth 20000 in
theorem ggX4_comes_X4_of : GoodIn wsX4_comes wsX4_of := goodIn_r _ [10, 1, 11, 12, 5, 13, 14, 15, 16, 17, 18, 19, 20, 21, 22, 23, 24] (by decide +kernel) (by decide +kernel)
set_option maxRecDepth 20000 in
theorem gX4_comes_X4_of : GoodIn wsX4_comes (wsV RX4 57 RX4 yX4_of wsX4_of) := goodIn_app (goodIn_of _ (by decide +kernel)) ggX4_comes_X4_of
set_option maxRecDepth 20000 in
theorem ggX4_comes_X4_spot : GoodIn wsX4_comes wsX4_spot := goodIn_r _ [13] (by decide +kernel) (by decide +kernel)
set_option maxRecDepth 20000 in
theorem gX4_comes_X4_spot : GoodIn wsX4_comes (va_wsS RX4 53 yX4_spot wsX4_spot) := goodIn_app (goodIn_of _ (by decide +kernel)) ggX4_comes_X4_spot
theorem dX4_comes_0 : decode cX4_comes 0 = .ok (.aload_n 0, 1) := by decide +kernel
theorem dX4_comes_1 : decode cX4_comes 1 = .ok (.iload_n 1, 1) := by decide +kernel
theorem dX4_comes_2 : decode cX4_comes 2 = .ok (.invokevirtual 50, 3) := by decide +kernel
theorem dX4_comes_5 : decode cX4_comes 5 = .ok (.istore 5, 2) := by decide +kernel
theorem dX4_comes_7 : decode cX4_comes 7 = .ok (.iload 5, 2) := by decide +kernel
theorem dX4_comes_9 : decode cX4_comes 9 = .ok (.ifCond .le 64, 3) := by decide +kernel
theorem dX4_comes_12 : decode cX4_comes 12 = .ok (.aload_n 0, 1) := by decide +kernel
theorem dX4_comes_13 : decode cX4_comes 13 = .ok (.iload_n 1, 1) := by decide +kernel
theorem dX4_comes_14 : decode cX4_comes 14 = .ok (.iload 5, 2) := by decide +kernel
theorem dX4_comes_16 : decode cX4_comes 16 = .ok (.iconst 1, 1) := by decide +kernel
theorem dX4_comes_17 : decode cX4_comes 17 = .ok (.isub, 1) := by decide +kernel
theorem dX4_comes_18 : decode cX4_comes 18 = .ok (.iconst 0, 1) := by decide +kernel
theorem dX4_comes_19 : decode cX4_comes 19 = .ok (.invokevirtual 57, 3) := by decide +kernel
theorem dX4_comes_22 : decode cX4_comes 22 = .ok (.iload_n 2, 1) := by decide +kernel
theorem dX4_comes_23 : decode cX4_comes 23 = .ok (.if_icmp .le 50, 3) := by decide +kernel
theorem dX4_comes_26 : decode cX4_comes 26 = .ok (.iconst 0, 1) := by decide +kernel
theorem dX4_comes_27 : decode cX4_comes 27 = .ok (.istore 6, 2) := by decide +kernel
theorem dX4_comes_29 : decode cX4_comes 29 = .ok (.iload 6, 2) := by decide +kernel
theorem dX4_comes_31 : decode cX4_comes 31 = .ok (.bipush 6, 2) := by decide +kernel
theorem dX4_comes_33 : decode cX4_comes 33 = .ok (.if_icmp .ge 34, 3) := by decide +kernel
theorem dX4_comes_36 : decode cX4_comes 36 = .ok (.aload_n 0, 1) := by decide +kernel
theorem dX4_comes_37 : decode cX4_comes 37 = .ok (.getfield 7, 3) := by decide +kernel
theorem dX4_comes_40 : decode cX4_comes 40 = .ok (.iload_n 1, 1) := by decide +kernel
theorem dX4_comes_41 : decode cX4_comes 41 = .ok (.iload 5, 2) := by decide +kernel
theorem dX4_comes_43 : decode cX4_comes 43 = .ok (.invokestatic 53, 3) := by decide +kernel
theorem dX4_comes_46 : decode cX4_comes 46 = .ok (.iload 6, 2) := by decide +kernel
theorem dX4_comes_48 : decode cX4_comes 48 = .ok (.iadd, 1) := by decide +kernel
theorem dX4_comes_49 : decode cX4_comes 49 = .ok (.aload_n 0, 1) := by decide +kernel
theorem dX4_comes_50 : decode cX4_comes 50 = .ok (.iload_n 1, 1) := by decide +kernel
theorem dX4_comes_51 : decode cX4_comes 51 = .ok (.iload 5, 2) := by decide +kernel
theorem dX4_comes_53 : decode cX4_comes 53 = .ok (.iconst 1, 1) := by decide +kernel
theorem dX4_comes_54 : decode cX4_comes 54 = .ok (.isub, 1) := by decide +kernel
theorem dX4_comes_55 : decode cX4_comes 55 = .ok (.iload 6, 2) := by decide +kernel
theorem dX4_comes_57 : decode cX4_comes 57 = .ok (.invokevirtual 57, 3) := by decide +kernel
theorem dX4_comes_60 : decode cX4_comes 60 = .ok (.iastore, 1) := by decide +kernel
theorem dX4_comes_61 : decode cX4_comes 61 = .ok (.iinc 6 1, 3) := by decide +kernel
theorem dX4_comes_64 : decode cX4_comes 64 = .ok (.goto (-35), 3) := by decide +kernel
theorem dX4_comes_67 : decode cX4_comes 67 = .ok (.iinc 5 (-1), 3) := by decide +kernel
theorem dX4_comes_70 : decode cX4_comes 70 = .ok (.goto (-63), 3) := by decide +kernel
theorem dX4_comes_73 : decode cX4_comes 73 = .ok (.iload_n 1, 1) := by decide +kernel
theorem dX4_comes_74 : decode cX4_comes 74 = .ok (.iload 5, 2) := by decide +kernel
theorem dX4_comes_76 : decode cX4_comes 76 = .ok (.invokestatic 53, 3) := by decide +kernel
theorem dX4_comes_79 : decode cX4_comes 79 = .ok (.istore 6, 2) := by decide +kernel
theorem dX4_comes_81 : decode cX4_comes 81 = .ok (.aload_n 0, 1) := by decide +kernel
theorem dX4_comes_82 : decode cX4_comes 82 = .ok (.getfield 7, 3) := by decide +kernel
theorem dX4_comes_85 : decode cX4_comes 85 = .ok (.iload 6, 2) := by decide +kernel
theorem dX4_comes_87 : decode cX4_comes 87 = .ok (.iconst 0, 1) := by decide +kernel
theorem dX4_comes_88 : decode cX4_comes 88 = .ok (.iadd, 1) := by decide +kernel
theorem dX4_comes_89 : decode cX4_comes 89 = .ok (.iload_n 2, 1) := by decide +kernel
theorem dX4_comes_90 : decode cX4_comes 90 = .ok (.iastore, 1) := by decide +kernel
theorem dX4_comes_91 : decode cX4_comes 91 = .ok (.aload_n 0, 1) := by decide +kernel
theorem dX4_comes_92 : decode cX4_comes 92 = .ok (.getfield 7, 3) := by decide +kernel
theorem dX4_comes_95 : decode cX4_comes 95 = .ok (.iload 6, 2) := by decide +kernel
theorem dX4_comes_97 : decode cX4_comes 97 = .ok (.iconst 1, 1) := by decide +kernel
theorem dX4_comes_98 : decode cX4_comes 98 = .ok (.iadd, 1) := by decide +kernel
theorem dX4_comes_99 : decode cX4_comes 99 = .ok (.iload_n 3, 1) := by decide +kernel
theorem dX4_comes_100 : decode cX4_comes 100 = .ok (.iastore, 1) := by decide +kernel
theorem dX4_comes_101 : decode cX4_comes 101 = .ok (.aload_n 0, 1) := by decide +kernel
theorem dX4_comes_102 : decode cX4_comes 102 = .ok (.getfield 7, 3) := by decide +kernel
theorem dX4_comes_105 : decode cX4_comes 105 = .ok (.iload 6, 2) := by decide +kernel
theorem dX4_comes_107 : decode cX4_comes 107 = .ok (.iconst 2, 1) := by decide +kernel
theorem dX4_comes_108 : decode cX4_comes 108 = .ok (.iadd, 1) := by decide +kernel
theorem dX4_comes_109 : decode cX4_comes 109 = .ok (.iload 4, 2) := by decide +kernel
theorem dX4_comes_111 : decode cX4_comes 111 = .ok (.iastore, 1) := by decide +kernel
theorem dX4_comes_112 : decode cX4_comes 112 = .ok (.aload_n 0, 1) := by decide +kernel
theorem dX4_comes_113 : decode cX4_comes 113 = .ok (.getfield 7, 3) := by decide +kernel
theorem dX4_comes_116 : decode cX4_comes 116 = .ok (.iload 6, 2) := by decide +kernel
theorem dX4_comes_118 : decode cX4_comes 118 = .ok (.iconst 3, 1) := by decide +kernel
theorem dX4_comes_119 : decode cX4_comes 119 = .ok (.iadd, 1) := by decide +kernel
theorem dX4_comes_120 : decode cX4_comes 120 = .ok (.iconst 0, 1) := by decide +kernel
theorem dX4_comes_121 : decode cX4_comes 121 = .ok (.iastore, 1) := by decide +kernel
theorem dX4_comes_122 : decode cX4_comes 122 = .ok (.aload_n 0, 1) := by decide +kernel
theorem dX4_comes_123 : decode cX4_comes 123 = .ok (.getfield 7, 3) := by decide +kernel
theorem dX4_comes_126 : decode cX4_comes 126 = .ok (.iload 6, 2) := by decide +kernel
theorem dX4_comes_128 : decode cX4_comes 128 = .ok (.iconst 4, 1) := by decide +kernel
theorem dX4_comes_129 : decode cX4_comes 129 = .ok (.iadd, 1) := by decide +kernel
theorem dX4_comes_130 : decode cX4_comes 130 = .ok (.iconst 0, 1) := by decide +kernel
theorem dX4_comes_131 : decode cX4_comes 131 = .ok (.iastore, 1) := by decide +kernel
theorem dX4_comes_132 : decode cX4_comes 132 = .ok (.aload_n 0, 1) := by decide +kernel
theorem dX4_comes_133 : decode cX4_comes 133 = .ok (.getfield 7, 3) := by decide +kernel
theorem dX4_comes_136 : decode cX4_comes 136 = .ok (.iload 6, 2) := by decide +kernel
theorem dX4_comes_138 : decode cX4_comes 138 = .ok (.iconst 5, 1) := by decide +kernel
theorem dX4_comes_139 : decode cX4_comes 139 = .ok (.iadd, 1) := by decide +kernel
theorem dX4_comes_140 : decode cX4_comes 140 = .ok (.iconst 0, 1) := by decide +kernel
theorem dX4_comes_141 : decode cX4_comes 141 = .ok (.iastore, 1) := by decide +kernel
theorem dX4_comes_142 : decode cX4_comes 142 = .ok (.aload_n 0, 1) := by decide +kernel
theorem dX4_comes_143 : decode cX4_comes 143 = .ok (.getfield 7, 3) := by decide +kernel
theorem dX4_comes_146 : decode cX4_comes 146 = .ok (.bipush 97, 2) := by decide +kernel
theorem dX4_comes_148 : decode cX4_comes 148 = .ok (.iload_n 1, 1) := by decide +kernel
theorem dX4_comes_149 : decode cX4_comes 149 = .ok (.imul, 1) := by decide +kernel
theorem dX4_comes_150 : decode cX4_comes 150 = .ok (.dup2, 1) := by decide +kernel
theorem dX4_comes_151 : decode cX4_comes 151 = .ok (.iaload, 1) := by decide +kernel
theorem dX4_comes_152 : decode cX4_comes 152 = .ok (.iconst 1, 1) := by decide +kernel
theorem dX4_comes_153 : decode cX4_comes 153 = .ok (.iadd, 1) := by decide +kernel
theorem dX4_comes_154 : decode cX4_comes 154 = .ok (.iastore, 1) := by decide +kernel
theorem dX4_comes_155 : decode cX4_comes 155 = .ok (.iload 5, 2) := by decide +kernel
theorem dX4_comes_157 : decode cX4_comes 157 = .ok (.ireturn, 1) := by decide +kernel
set_option maxRecDepth 20000 in
theorem ggX4_goes_X4_spot : GoodIn wsX4_goes wsX4_spot := goodIn_r _ [5] (by decide +kernel) (by decide +kernel)
set_option maxRecDepth 20000 in
theorem gX4_goes_X4_spot : GoodIn wsX4_goes (va_wsS RX4 53 yX4_spot wsX4_spot) := goodIn_app (goodIn_of _ (by decide +kernel)) ggX4_goes_X4_spot
set_option maxRecDepth 20000 in
theorem ggX4_goes_X4_many : GoodIn wsX4_goes wsX4_many := goodIn_r _ [9, 1, 10, 11, 12, 13, 14, 15, 16, 17, 18, 19, 20] (by decide +kernel) (by decide +kernel)
set_option maxRecDepth 20000 in
theorem gX4_goes_X4_many : GoodIn wsX4_goes (wsV RX4 50 RX4 yX4_many wsX4_many) := goodIn_app (goodIn_of _ (by decide +kernel)) ggX4_goes_X4_many
theorem dX4_goes_0 : decode cX4_goes 0 = .ok (.aload_n 0, 1) := by decide +kernel
theorem dX4_goes_1 : decode cX4_goes 1 = .ok (.getfield 7, 3) := by decide +kernel
theorem dX4_goes_4 : decode cX4_goes 4 = .ok (.bipush 97, 2) := by decide +kernel
theorem dX4_goes_6 : decode cX4_goes 6 = .ok (.iload_n 1, 1) := by decide +kernel
theorem dX4_goes_7 : decode cX4_goes 7 = .ok (.imul, 1) := by decide +kernel
theorem dX4_goes_8 : decode cX4_goes 8 = .ok (.dup2, 1) := by decide +kernel
theorem dX4_goes_9 : decode cX4_goes 9 = .ok (.iaload, 1) := by decide +kernel
theorem dX4_goes_10 : decode cX4_goes 10 = .ok (.iconst 1, 1) := by decide +kernel
theorem dX4_goes_11 : decode cX4_goes 11 = .ok (.isub, 1) := by decide +kernel
theorem dX4_goes_12 : decode cX4_goes 12 = .ok (.iastore, 1) := by decide +kernel
theorem dX4_goes_13 : decode cX4_goes 13 = .ok (.iload_n 1, 1) := by decide +kernel
theorem dX4_goes_14 : decode cX4_goes 14 = .ok (.iload_n 2, 1) := by decide +kernel
theorem dX4_goes_15 : decode cX4_goes 15 = .ok (.invokestatic 53, 3) := by decide +kernel
theorem dX4_goes_18 : decode cX4_goes 18 = .ok (.istore_n 3, 1) := by decide +kernel
theorem dX4_goes_19 : decode cX4_goes 19 = .ok (.iload_n 3, 1) := by decide +kernel
theorem dX4_goes_20 : decode cX4_goes 20 = .ok (.iload_n 1, 1) := by decide +kernel
theorem dX4_goes_21 : decode cX4_goes 21 = .ok (.aload_n 0, 1) := by decide +kernel
theorem dX4_goes_22 : decode cX4_goes 22 = .ok (.iload_n 1, 1) := by decide +kernel
theorem dX4_goes_23 : decode cX4_goes 23 = .ok (.invokevirtual 50, 3) := by decide +kernel
theorem dX4_goes_26 : decode cX4_goes 26 = .ok (.invokestatic 53, 3) := by decide +kernel
theorem dX4_goes_29 : decode cX4_goes 29 = .ok (.if_icmp .ge 24, 3) := by decide +kernel
theorem dX4_goes_32 : decode cX4_goes 32 = .ok (.aload_n 0, 1) := by decide +kernel
theorem dX4_goes_33 : decode cX4_goes 33 = .ok (.getfield 7, 3) := by decide +kernel
theorem dX4_goes_36 : decode cX4_goes 36 = .ok (.iload_n 3, 1) := by decide +kernel
theorem dX4_goes_37 : decode cX4_goes 37 = .ok (.aload_n 0, 1) := by decide +kernel
theorem dX4_goes_38 : decode cX4_goes 38 = .ok (.getfield 7, 3) := by decide +kernel
theorem dX4_goes_41 : decode cX4_goes 41 = .ok (.iload_n 3, 1) := by decide +kernel
theorem dX4_goes_42 : decode cX4_goes 42 = .ok (.bipush 6, 2) := by decide +kernel
theorem dX4_goes_44 : decode cX4_goes 44 = .ok (.iadd, 1) := by decide +kernel
theorem dX4_goes_45 : decode cX4_goes 45 = .ok (.iaload, 1) := by decide +kernel
theorem dX4_goes_46 : decode cX4_goes 46 = .ok (.iastore, 1) := by decide +kernel
theorem dX4_goes_47 : decode cX4_goes 47 = .ok (.iinc 3 1, 3) := by decide +kernel
theorem dX4_goes_50 : decode cX4_goes 50 = .ok (.goto (-31), 3) := by decide +kernel
theorem dX4_goes_53 : decode cX4_goes 53 = .ok (.return_, 1) := by decide +kernel
set_option maxRecDepth 20000 in
theorem ggX4_addKey_X4_isCurve : GoodIn wsX4_addKey wsX4_isCurve := goodIn_r _ [4, 5, 6, 3, 7] (by decide +kernel) (by decide +kernel)
set_option maxRecDepth 20000 in
theorem gX4_addKey_X4_isCurve : GoodIn wsX4_addKey (va_wsS RX4 46 yX4_isCurve wsX4_isCurve) := goodIn_app (goodIn_of _ (by decide +kernel)) ggX4_addKey_X4_isCurve
set_option maxRecDepth 20000 in
theorem ggX4_addKey_X4_fails : GoodIn wsX4_addKey wsX4_fails := goodIn_r _ [11, 12, 54, 55, 56, 57, 58, 59, 60, 61, 62, 63, 64] (by decide +kernel) (by decide +kernel)
set_option maxRecDepth 20000 in
theorem gX4_addKey_X4_fails : GoodIn wsX4_addKey (wsV RX4 79 RX4 yX4_fails wsX4_fails) := goodIn_app (goodIn_of _ (by decide +kernel)) ggX4_addKey_X4_fails
set_option maxRecDepth 20000 in
theorem ggX4_addKey_X4_isFrame : GoodIn wsX4_addKey wsX4_isFrame := goodIn_r _ [15, 5, 6, 3, 7] (by decide +kernel) (by decide +kernel)
set_option maxRecDepth 20000 in
theorem gX4_addKey_X4_isFrame : GoodIn wsX4_addKey (va_wsS RX4 82 yX4_isFrame wsX4_isFrame) := goodIn_app (goodIn_of _ (by decide +kernel)) ggX4_addKey_X4_isFrame
set_option maxRecDepth 20000 in
theorem ggX4_addKey_X4_isValue : GoodIn wsX4_addKey wsX4_isValue := goodIn_r _ [18, 5, 6, 3, 7] (by decide +kernel) (by decide +kernel)
set_option maxRecDepth 20000 in
theorem gX4_addKey_X4_isValue : GoodIn wsX4_addKey (va_wsS RX4 85 yX4_isValue wsX4_isValue) := goodIn_app (goodIn_of _ (by decide +kernel)) ggX4_addKey_X4_isValue
set_option maxRecDepth 20000 in
theorem ggX4_addKey_X4_in : GoodIn wsX4_addKey wsX4_in := goodIn_r _ [7] (by decide +kernel) (by decide +kernel)
set_option maxRecDepth 20000 in
theorem gX4_addKey_X4_in : GoodIn wsX4_addKey (va_wsS RX4 42 yX4_in wsX4_in) := goodIn_app (goodIn_of _ (by decide +kernel)) ggX4_addKey_X4_in
set_option maxRecDepth 20000 in
theorem ggX4_addKey_X4_many : GoodIn wsX4_addKey wsX4_many := goodIn_r _ [22, 23, 54, 55, 56, 57, 58, 59, 60, 61, 62, 63, 64] (by decide +kernel) (by decide +kernel)
set_option maxRecDepth 20000 in
theorem gX4_addKey_X4_many : GoodIn wsX4_addKey (wsV RX4 50 RX4 yX4_many wsX4_many) := goodIn_app (goodIn_of _ (by decide +kernel)) ggX4_addKey_X4_many
set_option maxRecDepth 20000 in
theorem ggX4_addKey_X4_keyAt : GoodIn wsX4_addKey wsX4_keyAt := goodIn_r _ [27, 19, 20, 21, 3, 22, 23, 28, 29, 30, 31, 32, 33, 34, 54, 55, 56, 57, 58, 59, 60, 61, 62, 63, 64] (by decide +kernel) (by decide +kernel)
set_option maxRecDepth 20000 in
theorem gX4_addKey_X4_keyAt : GoodIn wsX4_addKey (wsV RX4 88 RX4 yX4_keyAt wsX4_keyAt) := goodIn_app (goodIn_of _ (by decide +kernel)) ggX4_addKey_X4_keyAt
set_option maxRecDepth 20000 in
theorem ggX4_addKey_X4_hold : GoodIn wsX4_addKey wsX4_hold := goodIn_r _ [38, 39, 23, 54, 55, 56, 57, 58, 59, 60, 61, 62, 63, 64] (by decide +kernel) (by decide +kernel)
set_option maxRecDepth 20000 in
theorem gX4_addKey_X4_hold : GoodIn wsX4_addKey (wsV RX4 91 RX4 yX4_hold wsX4_hold) := goodIn_app (goodIn_of _ (by decide +kernel)) ggX4_addKey_X4_hold
set_option maxRecDepth 20000 in
theorem ggX4_addKey_X4_comes : GoodIn wsX4_addKey wsX4_comes := goodIn_r _ [43, 23, 19, 20, 21, 3, 22, 28, 29, 30, 31, 32, 33, 34, 54, 55, 56, 57, 58, 59, 60, 61, 62, 63, 64] (by decide +kernel) (by decide +kernel)
set_option maxRecDepth 20000 in
theorem gX4_addKey_X4_comes : GoodIn wsX4_addKey (wsV RX4 94 RX4 yX4_comes wsX4_comes) := goodIn_app (goodIn_of _ (by decide +kernel)) ggX4_addKey_X4_comes
set_option maxRecDepth 20000 in
theorem ggX4_addKey_X4_ends : GoodIn wsX4_addKey wsX4_ends := goodIn_r _ [47, 48, 49, 39, 50, 51, 52, 3, 53, 12, 54, 55, 56, 57, 58, 59, 60, 61, 62, 63, 64] (by decide +kernel) (by decide +kernel)
set_option maxRecDepth 20000 in
theorem gX4_addKey_X4_ends : GoodIn wsX4_addKey (wsV RX4 98 RX4 yX4_ends wsX4_ends) := goodIn_app (goodIn_of _ (by decide +kernel)) ggX4_addKey_X4_ends
theorem dX4_addKey_0 : decode cX4_addKey 0 = .ok (.iload_n 1, 1) := by decide +kernel
theorem dX4_addKey_1 : decode cX4_addKey 1 = .ok (.invokestatic 46, 3) := by decide +kernel
theorem dX4_addKey_4 : decode cX4_addKey 4 = .ok (.ifCond .ne 9, 3) := by decide +kernel
theorem dX4_addKey_7 : decode cX4_addKey 7 = .ok (.aload_n 0, 1) := by decide +kernel
theorem dX4_addKey_8 : decode cX4_addKey 8 = .ok (.iconst 1, 1) := by decide +kernel
theorem dX4_addKey_9 : decode cX4_addKey 9 = .ok (.invokevirtual 79, 3) := by decide +kernel
theorem dX4_addKey_12 : decode cX4_addKey 12 = .ok (.ireturn, 1) := by decide +kernel
theorem dX4_addKey_13 : decode cX4_addKey 13 = .ok (.iload_n 2, 1) := by decide +kernel
theorem dX4_addKey_14 : decode cX4_addKey 14 = .ok (.invokestatic 82, 3) := by decide +kernel
theorem dX4_addKey_17 : decode cX4_addKey 17 = .ok (.ifCond .eq 20, 3) := by decide +kernel
theorem dX4_addKey_20 : decode cX4_addKey 20 = .ok (.iload_n 3, 1) := by decide +kernel
theorem dX4_addKey_21 : decode cX4_addKey 21 = .ok (.invokestatic 85, 3) := by decide +kernel
theorem dX4_addKey_24 : decode cX4_addKey 24 = .ok (.ifCond .eq 13, 3) := by decide +kernel
theorem dX4_addKey_27 : decode cX4_addKey 27 = .ok (.iload 4, 2) := by decide +kernel
theorem dX4_addKey_29 : decode cX4_addKey 29 = .ok (.iconst 0, 1) := by decide +kernel
theorem dX4_addKey_30 : decode cX4_addKey 30 = .ok (.iconst 5, 1) := by decide +kernel
theorem dX4_addKey_31 : decode cX4_addKey 31 = .ok (.invokestatic 42, 3) := by decide +kernel
theorem dX4_addKey_34 : decode cX4_addKey 34 = .ok (.ifCond .ne 9, 3) := by decide +kernel
theorem dX4_addKey_37 : decode cX4_addKey 37 = .ok (.aload_n 0, 1) := by decide +kernel
theorem dX4_addKey_38 : decode cX4_addKey 38 = .ok (.iconst 2, 1) := by decide +kernel
theorem dX4_addKey_39 : decode cX4_addKey 39 = .ok (.invokevirtual 79, 3) := by decide +kernel
theorem dX4_addKey_42 : decode cX4_addKey 42 = .ok (.ireturn, 1) := by decide +kernel
theorem dX4_addKey_43 : decode cX4_addKey 43 = .ok (.aload_n 0, 1) := by decide +kernel
theorem dX4_addKey_44 : decode cX4_addKey 44 = .ok (.iload_n 1, 1) := by decide +kernel
theorem dX4_addKey_45 : decode cX4_addKey 45 = .ok (.invokevirtual 50, 3) := by decide +kernel
theorem dX4_addKey_48 : decode cX4_addKey 48 = .ok (.bipush 16, 2) := by decide +kernel
theorem dX4_addKey_50 : decode cX4_addKey 50 = .ok (.if_icmp .eq 13, 3) := by decide +kernel
theorem dX4_addKey_53 : decode cX4_addKey 53 = .ok (.aload_n 0, 1) := by decide +kernel
theorem dX4_addKey_54 : decode cX4_addKey 54 = .ok (.iload_n 1, 1) := by decide +kernel
theorem dX4_addKey_55 : decode cX4_addKey 55 = .ok (.iload_n 2, 1) := by decide +kernel
theorem dX4_addKey_56 : decode cX4_addKey 56 = .ok (.invokevirtual 88, 3) := by decide +kernel
theorem dX4_addKey_59 : decode cX4_addKey 59 = .ok (.iconst (-1), 1) := by decide +kernel
theorem dX4_addKey_60 : decode cX4_addKey 60 = .ok (.if_icmp .eq 9, 3) := by decide +kernel
theorem dX4_addKey_63 : decode cX4_addKey 63 = .ok (.aload_n 0, 1) := by decide +kernel
theorem dX4_addKey_64 : decode cX4_addKey 64 = .ok (.iconst 3, 1) := by decide +kernel
theorem dX4_addKey_65 : decode cX4_addKey 65 = .ok (.invokevirtual 79, 3) := by decide +kernel
theorem dX4_addKey_68 : decode cX4_addKey 68 = .ok (.ireturn, 1) := by decide +kernel
theorem dX4_addKey_69 : decode cX4_addKey 69 = .ok (.aload_n 0, 1) := by decide +kernel
theorem dX4_addKey_70 : decode cX4_addKey 70 = .ok (.invokevirtual 91, 3) := by decide +kernel
theorem dX4_addKey_73 : decode cX4_addKey 73 = .ok (.aload_n 0, 1) := by decide +kernel
theorem dX4_addKey_74 : decode cX4_addKey 74 = .ok (.aload_n 0, 1) := by decide +kernel
theorem dX4_addKey_75 : decode cX4_addKey 75 = .ok (.iload_n 1, 1) := by decide +kernel
theorem dX4_addKey_76 : decode cX4_addKey 76 = .ok (.iload_n 2, 1) := by decide +kernel
theorem dX4_addKey_77 : decode cX4_addKey 77 = .ok (.iload_n 3, 1) := by decide +kernel
theorem dX4_addKey_78 : decode cX4_addKey 78 = .ok (.iload 4, 2) := by decide +kernel
theorem dX4_addKey_80 : decode cX4_addKey 80 = .ok (.invokevirtual 94, 3) := by decide +kernel
theorem dX4_addKey_83 : decode cX4_addKey 83 = .ok (.invokevirtual 98, 3) := by decide +kernel
theorem dX4_addKey_86 : decode cX4_addKey 86 = .ok (.ireturn, 1) := by decide +kernel
set_option maxRecDepth 20000 in
theorem ggX4_removeKey_X4_isKey : GoodIn wsX4_removeKey wsX4_isKey := goodIn_r _ [5, 6, 7, 4, 8, 9, 10, 11, 12, 13, 14, 15, 16, 48, 49, 50, 51, 52, 53, 54, 55, 56, 57, 58] (by decide +kernel) (by decide +kernel)
set_option maxRecDepth 20000 in
theorem gX4_removeKey_X4_isKey : GoodIn wsX4_removeKey (wsV RX4 101 RX4 yX4_isKey wsX4_isKey) := goodIn_app (goodIn_of _ (by decide +kernel)) ggX4_removeKey_X4_isKey
set_option maxRecDepth 20000 in
theorem ggX4_removeKey_X4_fails : GoodIn wsX4_removeKey wsX4_fails := goodIn_r _ [20, 21, 48, 49, 50, 51, 52, 53, 54, 55, 56, 57, 58] (by decide +kernel) (by decide +kernel)
set_option maxRecDepth 20000 in
theorem gX4_removeKey_X4_fails : GoodIn wsX4_removeKey (wsV RX4 79 RX4 yX4_fails wsX4_fails) := goodIn_app (goodIn_of _ (by decide +kernel)) ggX4_removeKey_X4_fails
set_option maxRecDepth 20000 in
theorem ggX4_removeKey_X4_of : GoodIn wsX4_removeKey wsX4_of := goodIn_r _ [25, 16, 26, 27, 4, 28, 48, 49, 50, 51, 52, 53, 54, 55, 56, 57, 58] (by decide +kernel) (by decide +kernel)
set_option maxRecDepth 20000 in
theorem gX4_removeKey_X4_of : GoodIn wsX4_removeKey (wsV RX4 57 RX4 yX4_of wsX4_of) := goodIn_app (goodIn_of _ (by decide +kernel)) ggX4_removeKey_X4_of
set_option maxRecDepth 20000 in
theorem ggX4_removeKey_X4_hold : GoodIn wsX4_removeKey wsX4_hold := goodIn_r _ [32, 33, 16, 48, 49, 50, 51, 52, 53, 54, 55, 56, 57, 58] (by decide +kernel) (by decide +kernel)
set_option maxRecDepth 20000 in
theorem gX4_removeKey_X4_hold : GoodIn wsX4_removeKey (wsV RX4 91 RX4 yX4_hold wsX4_hold) := goodIn_app (goodIn_of _ (by decide +kernel)) ggX4_removeKey_X4_hold
set_option maxRecDepth 20000 in
theorem ggX4_removeKey_X4_goes : GoodIn wsX4_removeKey wsX4_goes := goodIn_r _ [37, 16, 26, 27, 4, 28, 12, 13, 14, 15, 48, 49, 50, 51, 52, 53, 54, 55, 56, 57, 58] (by decide +kernel) (by decide +kernel)
set_option maxRecDepth 20000 in
theorem gX4_removeKey_X4_goes : GoodIn wsX4_removeKey (wsV RX4 105 RX4 yX4_goes wsX4_goes) := goodIn_app (goodIn_of _ (by decide +kernel)) ggX4_removeKey_X4_goes
set_option maxRecDepth 20000 in
theorem ggX4_removeKey_X4_many : GoodIn wsX4_removeKey wsX4_many := goodIn_r _ [15, 16, 48, 49, 50, 51, 52, 53, 54, 55, 56, 57, 58] (by decide +kernel) (by decide +kernel)
set_option maxRecDepth 20000 in
theorem gX4_removeKey_X4_many : GoodIn wsX4_removeKey (wsV RX4 50 RX4 yX4_many wsX4_many) := goodIn_app (goodIn_of _ (by decide +kernel)) ggX4_removeKey_X4_many
set_option maxRecDepth 20000 in
theorem ggX4_removeKey_X4_ends : GoodIn wsX4_removeKey wsX4_ends := goodIn_r _ [41, 42, 43, 33, 44, 45, 46, 4, 47, 21, 48, 49, 50, 51, 52, 53, 54, 55, 56, 57, 58] (by decide +kernel) (by decide +kernel)
set_option maxRecDepth 20000 in
theorem gX4_removeKey_X4_ends : GoodIn wsX4_removeKey (wsV RX4 98 RX4 yX4_ends wsX4_ends) := goodIn_app (goodIn_of _ (by decide +kernel)) ggX4_removeKey_X4_ends
theorem dX4_removeKey_0 : decode cX4_removeKey 0 = .ok (.aload_n 0, 1) := by decide +kernel
theorem dX4_removeKey_1 : decode cX4_removeKey 1 = .ok (.iload_n 1, 1) := by decide +kernel
theorem dX4_removeKey_2 : decode cX4_removeKey 2 = .ok (.iload_n 2, 1) := by decide +kernel
theorem dX4_removeKey_3 : decode cX4_removeKey 3 = .ok (.invokevirtual 101, 3) := by decide +kernel
theorem dX4_removeKey_6 : decode cX4_removeKey 6 = .ok (.ifCond .ne 9, 3) := by decide +kernel
theorem dX4_removeKey_9 : decode cX4_removeKey 9 = .ok (.aload_n 0, 1) := by decide +kernel
theorem dX4_removeKey_10 : decode cX4_removeKey 10 = .ok (.iconst 1, 1) := by decide +kernel
theorem dX4_removeKey_11 : decode cX4_removeKey 11 = .ok (.invokevirtual 79, 3) := by decide +kernel
theorem dX4_removeKey_14 : decode cX4_removeKey 14 = .ok (.ireturn, 1) := by decide +kernel
theorem dX4_removeKey_15 : decode cX4_removeKey 15 = .ok (.aload_n 0, 1) := by decide +kernel
theorem dX4_removeKey_16 : decode cX4_removeKey 16 = .ok (.iload_n 1, 1) := by decide +kernel
theorem dX4_removeKey_17 : decode cX4_removeKey 17 = .ok (.iload_n 2, 1) := by decide +kernel
theorem dX4_removeKey_18 : decode cX4_removeKey 18 = .ok (.iconst 5, 1) := by decide +kernel
theorem dX4_removeKey_19 : decode cX4_removeKey 19 = .ok (.invokevirtual 57, 3) := by decide +kernel
theorem dX4_removeKey_22 : decode cX4_removeKey 22 = .ok (.iconst 1, 1) := by decide +kernel
theorem dX4_removeKey_23 : decode cX4_removeKey 23 = .ok (.if_icmp .ne 9, 3) := by decide +kernel
theorem dX4_removeKey_26 : decode cX4_removeKey 26 = .ok (.aload_n 0, 1) := by decide +kernel
theorem dX4_removeKey_27 : decode cX4_removeKey 27 = .ok (.iconst 2, 1) := by decide +kernel
theorem dX4_removeKey_28 : decode cX4_removeKey 28 = .ok (.invokevirtual 79, 3) := by decide +kernel
theorem dX4_removeKey_31 : decode cX4_removeKey 31 = .ok (.ireturn, 1) := by decide +kernel
theorem dX4_removeKey_32 : decode cX4_removeKey 32 = .ok (.aload_n 0, 1) := by decide +kernel
theorem dX4_removeKey_33 : decode cX4_removeKey 33 = .ok (.invokevirtual 91, 3) := by decide +kernel
theorem dX4_removeKey_36 : decode cX4_removeKey 36 = .ok (.aload_n 0, 1) := by decide +kernel
theorem dX4_removeKey_37 : decode cX4_removeKey 37 = .ok (.iload_n 1, 1) := by decide +kernel
theorem dX4_removeKey_38 : decode cX4_removeKey 38 = .ok (.iload_n 2, 1) := by decide +kernel
theorem dX4_removeKey_39 : decode cX4_removeKey 39 = .ok (.invokevirtual 105, 3) := by decide +kernel
theorem dX4_removeKey_42 : decode cX4_removeKey 42 = .ok (.aload_n 0, 1) := by decide +kernel
theorem dX4_removeKey_43 : decode cX4_removeKey 43 = .ok (.aload_n 0, 1) := by decide +kernel
theorem dX4_removeKey_44 : decode cX4_removeKey 44 = .ok (.iload_n 1, 1) := by decide +kernel
theorem dX4_removeKey_45 : decode cX4_removeKey 45 = .ok (.invokevirtual 50, 3) := by decide +kernel
theorem dX4_removeKey_48 : decode cX4_removeKey 48 = .ok (.invokevirtual 98, 3) := by decide +kernel
theorem dX4_removeKey_51 : decode cX4_removeKey 51 = .ok (.ireturn, 1) := by decide +kernel
set_option maxRecDepth 20000 in
theorem ggX4_setKey_X4_isKey : GoodIn wsX4_setKey wsX4_isKey := goodIn_r _ [6, 7, 8, 5, 9, 10, 11, 12, 13, 14, 15, 16, 1, 47, 48, 49, 50, 51, 52, 53, 54, 55, 56, 57] (by decide +kernel) (by decide +kernel)
set_option maxRecDepth 20000 in
theorem gX4_setKey_X4_isKey : GoodIn wsX4_setKey (wsV RX4 101 RX4 yX4_isKey wsX4_isKey) := goodIn_app (goodIn_of _ (by decide +kernel)) ggX4_setKey_X4_isKey
set_option maxRecDepth 20000 in
theorem ggX4_setKey_X4_fails : GoodIn wsX4_setKey wsX4_fails := goodIn_r _ [20, 21, 47, 48, 49, 50, 51, 52, 53, 54, 55, 56, 57] (by decide +kernel) (by decide +kernel)
set_option maxRecDepth 20000 in
theorem gX4_setKey_X4_fails : GoodIn wsX4_setKey (wsV RX4 79 RX4 yX4_fails wsX4_fails) := goodIn_app (goodIn_of _ (by decide +kernel)) ggX4_setKey_X4_fails
set_option maxRecDepth 20000 in
theorem ggX4_setKey_X4_isValue : GoodIn wsX4_setKey wsX4_isValue := goodIn_r _ [24, 10, 11, 5, 12] (by decide +kernel) (by decide +kernel)
set_option maxRecDepth 20000 in
theorem gX4_setKey_X4_isValue : GoodIn wsX4_setKey (va_wsS RX4 85 yX4_isValue wsX4_isValue) := goodIn_app (goodIn_of _ (by decide +kernel)) ggX4_setKey_X4_isValue
set_option maxRecDepth 20000 in
theorem ggX4_setKey_X4_in : GoodIn wsX4_setKey wsX4_in := goodIn_r _ [12] (by decide +kernel) (by decide +kernel)
set_option maxRecDepth 20000 in
theorem gX4_setKey_X4_in : GoodIn wsX4_setKey (va_wsS RX4 42 yX4_in wsX4_in) := goodIn_app (goodIn_of _ (by decide +kernel)) ggX4_setKey_X4_in
set_option maxRecDepth 20000 in
theorem ggX4_setKey_X4_of : GoodIn wsX4_setKey wsX4_of := goodIn_r _ [28, 1, 29, 30, 5, 31, 47, 48, 49, 50, 51, 52, 53, 54, 55, 56, 57] (by decide +kernel) (by decide +kernel)
set_option maxRecDepth 20000 in
theorem gX4_setKey_X4_of : GoodIn wsX4_setKey (wsV RX4 57 RX4 yX4_of wsX4_of) := goodIn_app (goodIn_of _ (by decide +kernel)) ggX4_setKey_X4_of
set_option maxRecDepth 20000 in
theorem ggX4_setKey_X4_hold : GoodIn wsX4_setKey wsX4_hold := goodIn_r _ [35, 36, 1, 47, 48, 49, 50, 51, 52, 53, 54, 55, 56, 57] (by decide +kernel) (by decide +kernel)
set_option maxRecDepth 20000 in
theorem gX4_setKey_X4_hold : GoodIn wsX4_setKey (wsV RX4 91 RX4 yX4_hold wsX4_hold) := goodIn_app (goodIn_of _ (by decide +kernel)) ggX4_setKey_X4_hold
set_option maxRecDepth 20000 in
theorem ggX4_setKey_X4_spot : GoodIn wsX4_setKey wsX4_spot := goodIn_r _ [31] (by decide +kernel) (by decide +kernel)
set_option maxRecDepth 20000 in
theorem gX4_setKey_X4_spot : GoodIn wsX4_setKey (va_wsS RX4 53 yX4_spot wsX4_spot) := goodIn_app (goodIn_of _ (by decide +kernel)) ggX4_setKey_X4_spot
set_option maxRecDepth 20000 in
theorem ggX4_setKey_X4_ends : GoodIn wsX4_setKey wsX4_ends := goodIn_r _ [40, 41, 42, 36, 43, 44, 45, 5, 46, 21, 47, 48, 49, 50, 51, 52, 53, 54, 55, 56, 57] (by decide +kernel) (by decide +kernel)
set_option maxRecDepth 20000 in
theorem gX4_setKey_X4_ends : GoodIn wsX4_setKey (wsV RX4 98 RX4 yX4_ends wsX4_ends) := goodIn_app (goodIn_of _ (by decide +kernel)) ggX4_setKey_X4_ends
theorem dX4_setKey_0 : decode cX4_setKey 0 = .ok (.aload_n 0, 1) := by decide +kernel
theorem dX4_setKey_1 : decode cX4_setKey 1 = .ok (.iload_n 1, 1) := by decide +kernel
theorem dX4_setKey_2 : decode cX4_setKey 2 = .ok (.iload_n 2, 1) := by decide +kernel
theorem dX4_setKey_3 : decode cX4_setKey 3 = .ok (.invokevirtual 101, 3) := by decide +kernel
theorem dX4_setKey_6 : decode cX4_setKey 6 = .ok (.ifCond .ne 9, 3) := by decide +kernel
theorem dX4_setKey_9 : decode cX4_setKey 9 = .ok (.aload_n 0, 1) := by decide +kernel
theorem dX4_setKey_10 : decode cX4_setKey 10 = .ok (.iconst 1, 1) := by decide +kernel
theorem dX4_setKey_11 : decode cX4_setKey 11 = .ok (.invokevirtual 79, 3) := by decide +kernel
theorem dX4_setKey_14 : decode cX4_setKey 14 = .ok (.ireturn, 1) := by decide +kernel
theorem dX4_setKey_15 : decode cX4_setKey 15 = .ok (.iload_n 3, 1) := by decide +kernel
theorem dX4_setKey_16 : decode cX4_setKey 16 = .ok (.invokestatic 85, 3) := by decide +kernel
theorem dX4_setKey_19 : decode cX4_setKey 19 = .ok (.ifCond .eq 13, 3) := by decide +kernel
theorem dX4_setKey_22 : decode cX4_setKey 22 = .ok (.iload 4, 2) := by decide +kernel
theorem dX4_setKey_24 : decode cX4_setKey 24 = .ok (.iconst 0, 1) := by decide +kernel
theorem dX4_setKey_25 : decode cX4_setKey 25 = .ok (.iconst 5, 1) := by decide +kernel
theorem dX4_setKey_26 : decode cX4_setKey 26 = .ok (.invokestatic 42, 3) := by decide +kernel
theorem dX4_setKey_29 : decode cX4_setKey 29 = .ok (.ifCond .ne 9, 3) := by decide +kernel
theorem dX4_setKey_32 : decode cX4_setKey 32 = .ok (.aload_n 0, 1) := by decide +kernel
theorem dX4_setKey_33 : decode cX4_setKey 33 = .ok (.iconst 2, 1) := by decide +kernel
theorem dX4_setKey_34 : decode cX4_setKey 34 = .ok (.invokevirtual 79, 3) := by decide +kernel
theorem dX4_setKey_37 : decode cX4_setKey 37 = .ok (.ireturn, 1) := by decide +kernel
theorem dX4_setKey_38 : decode cX4_setKey 38 = .ok (.aload_n 0, 1) := by decide +kernel
theorem dX4_setKey_39 : decode cX4_setKey 39 = .ok (.iload_n 1, 1) := by decide +kernel
theorem dX4_setKey_40 : decode cX4_setKey 40 = .ok (.iload_n 2, 1) := by decide +kernel
theorem dX4_setKey_41 : decode cX4_setKey 41 = .ok (.iconst 5, 1) := by decide +kernel
theorem dX4_setKey_42 : decode cX4_setKey 42 = .ok (.invokevirtual 57, 3) := by decide +kernel
theorem dX4_setKey_45 : decode cX4_setKey 45 = .ok (.iconst 1, 1) := by decide +kernel
theorem dX4_setKey_46 : decode cX4_setKey 46 = .ok (.if_icmp .ne 9, 3) := by decide +kernel
theorem dX4_setKey_49 : decode cX4_setKey 49 = .ok (.aload_n 0, 1) := by decide +kernel
theorem dX4_setKey_50 : decode cX4_setKey 50 = .ok (.iconst 3, 1) := by decide +kernel
theorem dX4_setKey_51 : decode cX4_setKey 51 = .ok (.invokevirtual 79, 3) := by decide +kernel
theorem dX4_setKey_54 : decode cX4_setKey 54 = .ok (.ireturn, 1) := by decide +kernel
theorem dX4_setKey_55 : decode cX4_setKey 55 = .ok (.aload_n 0, 1) := by decide +kernel
theorem dX4_setKey_56 : decode cX4_setKey 56 = .ok (.invokevirtual 91, 3) := by decide +kernel
theorem dX4_setKey_59 : decode cX4_setKey 59 = .ok (.aload_n 0, 1) := by decide +kernel
theorem dX4_setKey_60 : decode cX4_setKey 60 = .ok (.iload_n 1, 1) := by decide +kernel
theorem dX4_setKey_61 : decode cX4_setKey 61 = .ok (.iload_n 2, 1) := by decide +kernel
theorem dX4_setKey_62 : decode cX4_setKey 62 = .ok (.iconst 1, 1) := by decide +kernel
theorem dX4_setKey_63 : decode cX4_setKey 63 = .ok (.invokevirtual 57, 3) := by decide +kernel
theorem dX4_setKey_66 : decode cX4_setKey 66 = .ok (.istore 5, 2) := by decide +kernel
theorem dX4_setKey_68 : decode cX4_setKey 68 = .ok (.aload_n 0, 1) := by decide +kernel
theorem dX4_setKey_69 : decode cX4_setKey 69 = .ok (.getfield 7, 3) := by decide +kernel
theorem dX4_setKey_72 : decode cX4_setKey 72 = .ok (.iload_n 1, 1) := by decide +kernel
theorem dX4_setKey_73 : decode cX4_setKey 73 = .ok (.iload_n 2, 1) := by decide +kernel
theorem dX4_setKey_74 : decode cX4_setKey 74 = .ok (.invokestatic 53, 3) := by decide +kernel
theorem dX4_setKey_77 : decode cX4_setKey 77 = .ok (.iconst 1, 1) := by decide +kernel
theorem dX4_setKey_78 : decode cX4_setKey 78 = .ok (.iadd, 1) := by decide +kernel
theorem dX4_setKey_79 : decode cX4_setKey 79 = .ok (.iload_n 3, 1) := by decide +kernel
theorem dX4_setKey_80 : decode cX4_setKey 80 = .ok (.iastore, 1) := by decide +kernel
theorem dX4_setKey_81 : decode cX4_setKey 81 = .ok (.aload_n 0, 1) := by decide +kernel
theorem dX4_setKey_82 : decode cX4_setKey 82 = .ok (.getfield 7, 3) := by decide +kernel
theorem dX4_setKey_85 : decode cX4_setKey 85 = .ok (.iload_n 1, 1) := by decide +kernel
theorem dX4_setKey_86 : decode cX4_setKey 86 = .ok (.iload_n 2, 1) := by decide +kernel
theorem dX4_setKey_87 : decode cX4_setKey 87 = .ok (.invokestatic 53, 3) := by decide +kernel
theorem dX4_setKey_90 : decode cX4_setKey 90 = .ok (.iconst 2, 1) := by decide +kernel
theorem dX4_setKey_91 : decode cX4_setKey 91 = .ok (.iadd, 1) := by decide +kernel
theorem dX4_setKey_92 : decode cX4_setKey 92 = .ok (.iload 4, 2) := by decide +kernel
theorem dX4_setKey_94 : decode cX4_setKey 94 = .ok (.iastore, 1) := by decide +kernel
theorem dX4_setKey_95 : decode cX4_setKey 95 = .ok (.aload_n 0, 1) := by decide +kernel
theorem dX4_setKey_96 : decode cX4_setKey 96 = .ok (.iload 5, 2) := by decide +kernel
theorem dX4_setKey_98 : decode cX4_setKey 98 = .ok (.invokevirtual 98, 3) := by decide +kernel
theorem dX4_setKey_101 : decode cX4_setKey 101 = .ok (.ireturn, 1) := by decide +kernel
set_option maxRecDepth 20000 in
theorem ggX4_moveKey_X4_isKey : GoodIn wsX4_moveKey wsX4_isKey := goodIn_r _ [6, 7, 8, 5, 9, 10, 11, 12, 13, 14, 15, 16, 1, 59, 60, 61, 62, 63, 64, 65, 66, 67, 68, 69] (by decide +kernel) (by decide +kernel)
set_option maxRecDepth 20000 in
theorem gX4_moveKey_X4_isKey : GoodIn wsX4_moveKey (wsV RX4 101 RX4 yX4_isKey wsX4_isKey) := goodIn_app (goodIn_of _ (by decide +kernel)) ggX4_moveKey_X4_isKey
set_option maxRecDepth 20000 in
theorem ggX4_moveKey_X4_fails : GoodIn wsX4_moveKey wsX4_fails := goodIn_r _ [20, 21, 59, 60, 61, 62, 63, 64, 65, 66, 67, 68, 69] (by decide +kernel) (by decide +kernel)
set_option maxRecDepth 20000 in
theorem gX4_moveKey_X4_fails : GoodIn wsX4_moveKey (wsV RX4 79 RX4 yX4_fails wsX4_fails) := goodIn_app (goodIn_of _ (by decide +kernel)) ggX4_moveKey_X4_fails
set_option maxRecDepth 20000 in
theorem ggX4_moveKey_X4_isFrame : GoodIn wsX4_moveKey wsX4_isFrame := goodIn_r _ [24, 10, 11, 5, 12] (by decide +kernel) (by decide +kernel)
set_option maxRecDepth 20000 in
theorem gX4_moveKey_X4_isFrame : GoodIn wsX4_moveKey (va_wsS RX4 82 yX4_isFrame wsX4_isFrame) := goodIn_app (goodIn_of _ (by decide +kernel)) ggX4_moveKey_X4_isFrame
set_option maxRecDepth 20000 in
theorem ggX4_moveKey_X4_keyAt : GoodIn wsX4_moveKey wsX4_keyAt := goodIn_r _ [28, 13, 14, 15, 5, 16, 1, 29, 30, 31, 32, 33, 34, 35, 59, 60, 61, 62, 63, 64, 65, 66, 67, 68, 69] (by decide +kernel) (by decide +kernel)
set_option maxRecDepth 20000 in
theorem gX4_moveKey_X4_keyAt : GoodIn wsX4_moveKey (wsV RX4 88 RX4 yX4_keyAt wsX4_keyAt) := goodIn_app (goodIn_of _ (by decide +kernel)) ggX4_moveKey_X4_keyAt
set_option maxRecDepth 20000 in
theorem ggX4_moveKey_X4_of : GoodIn wsX4_moveKey wsX4_of := goodIn_r _ [32, 1, 33, 34, 5, 35, 59, 60, 61, 62, 63, 64, 65, 66, 67, 68, 69] (by decide +kernel) (by decide +kernel)
set_option maxRecDepth 20000 in
theorem gX4_moveKey_X4_of : GoodIn wsX4_moveKey (wsV RX4 57 RX4 yX4_of wsX4_of) := goodIn_app (goodIn_of _ (by decide +kernel)) ggX4_moveKey_X4_of
set_option maxRecDepth 20000 in
theorem ggX4_moveKey_X4_hold : GoodIn wsX4_moveKey wsX4_hold := goodIn_r _ [39, 40, 1, 59, 60, 61, 62, 63, 64, 65, 66, 67, 68, 69] (by decide +kernel) (by decide +kernel)
set_option maxRecDepth 20000 in
theorem gX4_moveKey_X4_hold : GoodIn wsX4_moveKey (wsV RX4 91 RX4 yX4_hold wsX4_hold) := goodIn_app (goodIn_of _ (by decide +kernel)) ggX4_moveKey_X4_hold
set_option maxRecDepth 20000 in
theorem ggX4_moveKey_X4_goes : GoodIn wsX4_moveKey wsX4_goes := goodIn_r _ [44, 1, 33, 34, 5, 35, 13, 14, 15, 16, 59, 60, 61, 62, 63, 64, 65, 66, 67, 68, 69] (by decide +kernel) (by decide +kernel)
set_option maxRecDepth 20000 in
theorem gX4_moveKey_X4_goes : GoodIn wsX4_moveKey (wsV RX4 105 RX4 yX4_goes wsX4_goes) := goodIn_app (goodIn_of _ (by decide +kernel)) ggX4_moveKey_X4_goes
set_option maxRecDepth 20000 in
theorem ggX4_moveKey_X4_comes : GoodIn wsX4_moveKey wsX4_comes := goodIn_r _ [48, 1, 13, 14, 15, 5, 16, 29, 30, 31, 32, 33, 34, 35, 59, 60, 61, 62, 63, 64, 65, 66, 67, 68, 69] (by decide +kernel) (by decide +kernel)
set_option maxRecDepth 20000 in
theorem gX4_moveKey_X4_comes : GoodIn wsX4_moveKey (wsV RX4 94 RX4 yX4_comes wsX4_comes) := goodIn_app (goodIn_of _ (by decide +kernel)) ggX4_moveKey_X4_comes
set_option maxRecDepth 20000 in
theorem ggX4_moveKey_X4_spot : GoodIn wsX4_moveKey wsX4_spot := goodIn_r _ [35] (by decide +kernel) (by decide +kernel)
set_option maxRecDepth 20000 in
theorem gX4_moveKey_X4_spot : GoodIn wsX4_moveKey (va_wsS RX4 53 yX4_spot wsX4_spot) := goodIn_app (goodIn_of _ (by decide +kernel)) ggX4_moveKey_X4_spot
set_option maxRecDepth 20000 in
theorem ggX4_moveKey_X4_ends : GoodIn wsX4_moveKey wsX4_ends := goodIn_r _ [52, 53, 54, 40, 55, 56, 57, 5, 58, 21, 59, 60, 61, 62, 63, 64, 65, 66, 67, 68, 69] (by decide +kernel) (by decide +kernel)
set_option maxRecDepth 20000 in
theorem gX4_moveKey_X4_ends : GoodIn wsX4_moveKey (wsV RX4 98 RX4 yX4_ends wsX4_ends) := goodIn_app (goodIn_of _ (by decide +kernel)) ggX4_moveKey_X4_ends
theorem dX4_moveKey_0 : decode cX4_moveKey 0 = .ok (.aload_n 0, 1) := by decide +kernel
theorem dX4_moveKey_1 : decode cX4_moveKey 1 = .ok (.iload_n 1, 1) := by decide +kernel
theorem dX4_moveKey_2 : decode cX4_moveKey 2 = .ok (.iload_n 2, 1) := by decide +kernel
theorem dX4_moveKey_3 : decode cX4_moveKey 3 = .ok (.invokevirtual 101, 3) := by decide +kernel
theorem dX4_moveKey_6 : decode cX4_moveKey 6 = .ok (.ifCond .ne 9, 3) := by decide +kernel
theorem dX4_moveKey_9 : decode cX4_moveKey 9 = .ok (.aload_n 0, 1) := by decide +kernel
theorem dX4_moveKey_10 : decode cX4_moveKey 10 = .ok (.iconst 1, 1) := by decide +kernel
theorem dX4_moveKey_11 : decode cX4_moveKey 11 = .ok (.invokevirtual 79, 3) := by decide +kernel
theorem dX4_moveKey_14 : decode cX4_moveKey 14 = .ok (.ireturn, 1) := by decide +kernel
theorem dX4_moveKey_15 : decode cX4_moveKey 15 = .ok (.iload_n 3, 1) := by decide +kernel
theorem dX4_moveKey_16 : decode cX4_moveKey 16 = .ok (.invokestatic 82, 3) := by decide +kernel
theorem dX4_moveKey_19 : decode cX4_moveKey 19 = .ok (.ifCond .ne 9, 3) := by decide +kernel
theorem dX4_moveKey_22 : decode cX4_moveKey 22 = .ok (.aload_n 0, 1) := by decide +kernel
theorem dX4_moveKey_23 : decode cX4_moveKey 23 = .ok (.iconst 2, 1) := by decide +kernel
theorem dX4_moveKey_24 : decode cX4_moveKey 24 = .ok (.invokevirtual 79, 3) := by decide +kernel
theorem dX4_moveKey_27 : decode cX4_moveKey 27 = .ok (.ireturn, 1) := by decide +kernel
theorem dX4_moveKey_28 : decode cX4_moveKey 28 = .ok (.aload_n 0, 1) := by decide +kernel
theorem dX4_moveKey_29 : decode cX4_moveKey 29 = .ok (.iload_n 1, 1) := by decide +kernel
theorem dX4_moveKey_30 : decode cX4_moveKey 30 = .ok (.iload_n 3, 1) := by decide +kernel
theorem dX4_moveKey_31 : decode cX4_moveKey 31 = .ok (.invokevirtual 88, 3) := by decide +kernel
theorem dX4_moveKey_34 : decode cX4_moveKey 34 = .ok (.istore 4, 2) := by decide +kernel
theorem dX4_moveKey_36 : decode cX4_moveKey 36 = .ok (.aload_n 0, 1) := by decide +kernel
theorem dX4_moveKey_37 : decode cX4_moveKey 37 = .ok (.iload_n 1, 1) := by decide +kernel
theorem dX4_moveKey_38 : decode cX4_moveKey 38 = .ok (.iload_n 2, 1) := by decide +kernel
theorem dX4_moveKey_39 : decode cX4_moveKey 39 = .ok (.iconst 5, 1) := by decide +kernel
theorem dX4_moveKey_40 : decode cX4_moveKey 40 = .ok (.invokevirtual 57, 3) := by decide +kernel
theorem dX4_moveKey_43 : decode cX4_moveKey 43 = .ok (.iconst 1, 1) := by decide +kernel
theorem dX4_moveKey_44 : decode cX4_moveKey 44 = .ok (.if_icmp .eq 15, 3) := by decide +kernel
theorem dX4_moveKey_47 : decode cX4_moveKey 47 = .ok (.iload 4, 2) := by decide +kernel
theorem dX4_moveKey_49 : decode cX4_moveKey 49 = .ok (.iconst (-1), 1) := by decide +kernel
theorem dX4_moveKey_50 : decode cX4_moveKey 50 = .ok (.if_icmp .eq 15, 3) := by decide +kernel
theorem dX4_moveKey_53 : decode cX4_moveKey 53 = .ok (.iload 4, 2) := by decide +kernel
theorem dX4_moveKey_55 : decode cX4_moveKey 55 = .ok (.iload_n 2, 1) := by decide +kernel
theorem dX4_moveKey_56 : decode cX4_moveKey 56 = .ok (.if_icmp .eq 9, 3) := by decide +kernel
theorem dX4_moveKey_59 : decode cX4_moveKey 59 = .ok (.aload_n 0, 1) := by decide +kernel
theorem dX4_moveKey_60 : decode cX4_moveKey 60 = .ok (.iconst 3, 1) := by decide +kernel
theorem dX4_moveKey_61 : decode cX4_moveKey 61 = .ok (.invokevirtual 79, 3) := by decide +kernel
theorem dX4_moveKey_64 : decode cX4_moveKey 64 = .ok (.ireturn, 1) := by decide +kernel
theorem dX4_moveKey_65 : decode cX4_moveKey 65 = .ok (.aload_n 0, 1) := by decide +kernel
theorem dX4_moveKey_66 : decode cX4_moveKey 66 = .ok (.invokevirtual 91, 3) := by decide +kernel
theorem dX4_moveKey_69 : decode cX4_moveKey 69 = .ok (.aload_n 0, 1) := by decide +kernel
theorem dX4_moveKey_70 : decode cX4_moveKey 70 = .ok (.iload_n 1, 1) := by decide +kernel
theorem dX4_moveKey_71 : decode cX4_moveKey 71 = .ok (.iload_n 2, 1) := by decide +kernel
theorem dX4_moveKey_72 : decode cX4_moveKey 72 = .ok (.iconst 3, 1) := by decide +kernel
theorem dX4_moveKey_73 : decode cX4_moveKey 73 = .ok (.invokevirtual 57, 3) := by decide +kernel
theorem dX4_moveKey_76 : decode cX4_moveKey 76 = .ok (.istore 5, 2) := by decide +kernel
theorem dX4_moveKey_78 : decode cX4_moveKey 78 = .ok (.aload_n 0, 1) := by decide +kernel
theorem dX4_moveKey_79 : decode cX4_moveKey 79 = .ok (.iload_n 1, 1) := by decide +kernel
theorem dX4_moveKey_80 : decode cX4_moveKey 80 = .ok (.iload_n 2, 1) := by decide +kernel
theorem dX4_moveKey_81 : decode cX4_moveKey 81 = .ok (.iconst 4, 1) := by decide +kernel
theorem dX4_moveKey_82 : decode cX4_moveKey 82 = .ok (.invokevirtual 57, 3) := by decide +kernel
theorem dX4_moveKey_85 : decode cX4_moveKey 85 = .ok (.istore 6, 2) := by decide +kernel
theorem dX4_moveKey_87 : decode cX4_moveKey 87 = .ok (.aload_n 0, 1) := by decide +kernel
theorem dX4_moveKey_88 : decode cX4_moveKey 88 = .ok (.iload_n 1, 1) := by decide +kernel
theorem dX4_moveKey_89 : decode cX4_moveKey 89 = .ok (.iload_n 2, 1) := by decide +kernel
theorem dX4_moveKey_90 : decode cX4_moveKey 90 = .ok (.iconst 1, 1) := by decide +kernel
theorem dX4_moveKey_91 : decode cX4_moveKey 91 = .ok (.invokevirtual 57, 3) := by decide +kernel
theorem dX4_moveKey_94 : decode cX4_moveKey 94 = .ok (.istore 7, 2) := by decide +kernel
theorem dX4_moveKey_96 : decode cX4_moveKey 96 = .ok (.aload_n 0, 1) := by decide +kernel
theorem dX4_moveKey_97 : decode cX4_moveKey 97 = .ok (.iload_n 1, 1) := by decide +kernel
theorem dX4_moveKey_98 : decode cX4_moveKey 98 = .ok (.iload_n 2, 1) := by decide +kernel
theorem dX4_moveKey_99 : decode cX4_moveKey 99 = .ok (.iconst 2, 1) := by decide +kernel
theorem dX4_moveKey_100 : decode cX4_moveKey 100 = .ok (.invokevirtual 57, 3) := by decide +kernel
theorem dX4_moveKey_103 : decode cX4_moveKey 103 = .ok (.istore 8, 2) := by decide +kernel
theorem dX4_moveKey_105 : decode cX4_moveKey 105 = .ok (.aload_n 0, 1) := by decide +kernel
theorem dX4_moveKey_106 : decode cX4_moveKey 106 = .ok (.iload_n 1, 1) := by decide +kernel
theorem dX4_moveKey_107 : decode cX4_moveKey 107 = .ok (.iload_n 2, 1) := by decide +kernel
theorem dX4_moveKey_108 : decode cX4_moveKey 108 = .ok (.invokevirtual 105, 3) := by decide +kernel
theorem dX4_moveKey_111 : decode cX4_moveKey 111 = .ok (.aload_n 0, 1) := by decide +kernel
theorem dX4_moveKey_112 : decode cX4_moveKey 112 = .ok (.iload_n 1, 1) := by decide +kernel
theorem dX4_moveKey_113 : decode cX4_moveKey 113 = .ok (.iload_n 3, 1) := by decide +kernel
theorem dX4_moveKey_114 : decode cX4_moveKey 114 = .ok (.iload 7, 2) := by decide +kernel
theorem dX4_moveKey_116 : decode cX4_moveKey 116 = .ok (.iload 8, 2) := by decide +kernel
theorem dX4_moveKey_118 : decode cX4_moveKey 118 = .ok (.invokevirtual 94, 3) := by decide +kernel
theorem dX4_moveKey_121 : decode cX4_moveKey 121 = .ok (.istore 9, 2) := by decide +kernel
theorem dX4_moveKey_123 : decode cX4_moveKey 123 = .ok (.aload_n 0, 1) := by decide +kernel
theorem dX4_moveKey_124 : decode cX4_moveKey 124 = .ok (.getfield 7, 3) := by decide +kernel
theorem dX4_moveKey_127 : decode cX4_moveKey 127 = .ok (.iload_n 1, 1) := by decide +kernel
theorem dX4_moveKey_128 : decode cX4_moveKey 128 = .ok (.iload 9, 2) := by decide +kernel
theorem dX4_moveKey_130 : decode cX4_moveKey 130 = .ok (.invokestatic 53, 3) := by decide +kernel
theorem dX4_moveKey_133 : decode cX4_moveKey 133 = .ok (.iconst 3, 1) := by decide +kernel
theorem dX4_moveKey_134 : decode cX4_moveKey 134 = .ok (.iadd, 1) := by decide +kernel
theorem dX4_moveKey_135 : decode cX4_moveKey 135 = .ok (.iload 5, 2) := by decide +kernel
theorem dX4_moveKey_137 : decode cX4_moveKey 137 = .ok (.iastore, 1) := by decide +kernel
theorem dX4_moveKey_138 : decode cX4_moveKey 138 = .ok (.aload_n 0, 1) := by decide +kernel
theorem dX4_moveKey_139 : decode cX4_moveKey 139 = .ok (.getfield 7, 3) := by decide +kernel
theorem dX4_moveKey_142 : decode cX4_moveKey 142 = .ok (.iload_n 1, 1) := by decide +kernel
theorem dX4_moveKey_143 : decode cX4_moveKey 143 = .ok (.iload 9, 2) := by decide +kernel
theorem dX4_moveKey_145 : decode cX4_moveKey 145 = .ok (.invokestatic 53, 3) := by decide +kernel
theorem dX4_moveKey_148 : decode cX4_moveKey 148 = .ok (.iconst 4, 1) := by decide +kernel
theorem dX4_moveKey_149 : decode cX4_moveKey 149 = .ok (.iadd, 1) := by decide +kernel
theorem dX4_moveKey_150 : decode cX4_moveKey 150 = .ok (.iload 6, 2) := by decide +kernel
theorem dX4_moveKey_152 : decode cX4_moveKey 152 = .ok (.iastore, 1) := by decide +kernel
theorem dX4_moveKey_153 : decode cX4_moveKey 153 = .ok (.aload_n 0, 1) := by decide +kernel
theorem dX4_moveKey_154 : decode cX4_moveKey 154 = .ok (.iload 9, 2) := by decide +kernel
theorem dX4_moveKey_156 : decode cX4_moveKey 156 = .ok (.invokevirtual 98, 3) := by decide +kernel
theorem dX4_moveKey_159 : decode cX4_moveKey 159 = .ok (.ireturn, 1) := by decide +kernel
set_option maxRecDepth 20000 in
theorem ggX4_setTangent_X4_isKey : GoodIn wsX4_setTangent wsX4_isKey := goodIn_r _ [8, 9, 10, 7, 11, 12, 13, 14, 15, 16, 17, 18, 3, 50, 51, 52, 53, 54, 55, 56, 57, 58, 59, 60] (by decide +kernel) (by decide +kernel)
set_option maxRecDepth 20000 in
theorem gX4_setTangent_X4_isKey : GoodIn wsX4_setTangent (wsV RX4 101 RX4 yX4_isKey wsX4_isKey) := goodIn_app (goodIn_of _ (by decide +kernel)) ggX4_setTangent_X4_isKey
set_option maxRecDepth 20000 in
theorem ggX4_setTangent_X4_fails : GoodIn wsX4_setTangent wsX4_fails := goodIn_r _ [22, 23, 50, 51, 52, 53, 54, 55, 56, 57, 58, 59, 60] (by decide +kernel) (by decide +kernel)
set_option maxRecDepth 20000 in
theorem gX4_setTangent_X4_fails : GoodIn wsX4_setTangent (wsV RX4 79 RX4 yX4_fails wsX4_fails) := goodIn_app (goodIn_of _ (by decide +kernel)) ggX4_setTangent_X4_fails
set_option maxRecDepth 20000 in
theorem ggX4_setTangent_X4_in : GoodIn wsX4_setTangent wsX4_in := goodIn_r _ [14] (by decide +kernel) (by decide +kernel)
set_option maxRecDepth 20000 in
theorem gX4_setTangent_X4_in : GoodIn wsX4_setTangent (va_wsS RX4 42 yX4_in wsX4_in) := goodIn_app (goodIn_of _ (by decide +kernel)) ggX4_setTangent_X4_in
set_option maxRecDepth 20000 in
theorem ggX4_setTangent_X4_of : GoodIn wsX4_setTangent wsX4_of := goodIn_r _ [27, 3, 28, 29, 7, 30, 50, 51, 52, 53, 54, 55, 56, 57, 58, 59, 60] (by decide +kernel) (by decide +kernel)
set_option maxRecDepth 20000 in
theorem gX4_setTangent_X4_of : GoodIn wsX4_setTangent (wsV RX4 57 RX4 yX4_of wsX4_of) := goodIn_app (goodIn_of _ (by decide +kernel)) ggX4_setTangent_X4_of
set_option maxRecDepth 20000 in
theorem ggX4_setTangent_X4_hold : GoodIn wsX4_setTangent wsX4_hold := goodIn_r _ [34, 35, 3, 50, 51, 52, 53, 54, 55, 56, 57, 58, 59, 60] (by decide +kernel) (by decide +kernel)
set_option maxRecDepth 20000 in
theorem gX4_setTangent_X4_hold : GoodIn wsX4_setTangent (wsV RX4 91 RX4 yX4_hold wsX4_hold) := goodIn_app (goodIn_of _ (by decide +kernel)) ggX4_setTangent_X4_hold
set_option maxRecDepth 20000 in
theorem ggX4_setTangent_X4_tangent : GoodIn wsX4_setTangent wsX4_tangent := goodIn_r _ [39, 24, 25, 26, 7, 27, 3, 28, 29, 30, 15, 16, 17, 18, 50, 51, 52, 53, 54, 55, 56, 57, 58, 59, 60] (by decide +kernel) (by decide +kernel)
set_option maxRecDepth 20000 in
theorem gX4_setTangent_X4_tangent : GoodIn wsX4_setTangent (wsV RX4 71 RX4 yX4_tangent wsX4_tangent) := goodIn_app (goodIn_of _ (by decide +kernel)) ggX4_setTangent_X4_tangent
set_option maxRecDepth 20000 in
theorem ggX4_setTangent_X4_spot : GoodIn wsX4_setTangent wsX4_spot := goodIn_r _ [30] (by decide +kernel) (by decide +kernel)
set_option maxRecDepth 20000 in
theorem gX4_setTangent_X4_spot : GoodIn wsX4_setTangent (va_wsS RX4 53 yX4_spot wsX4_spot) := goodIn_app (goodIn_of _ (by decide +kernel)) ggX4_setTangent_X4_spot
set_option maxRecDepth 20000 in
theorem ggX4_setTangent_X4_ends : GoodIn wsX4_setTangent wsX4_ends := goodIn_r _ [43, 44, 45, 35, 46, 47, 48, 7, 49, 23, 50, 51, 52, 53, 54, 55, 56, 57, 58, 59, 60] (by decide +kernel) (by decide +kernel)
set_option maxRecDepth 20000 in
theorem gX4_setTangent_X4_ends : GoodIn wsX4_setTangent (wsV RX4 98 RX4 yX4_ends wsX4_ends) := goodIn_app (goodIn_of _ (by decide +kernel)) ggX4_setTangent_X4_ends
theorem dX4_setTangent_0 : decode cX4_setTangent 0 = .ok (.aload_n 0, 1) := by decide +kernel
theorem dX4_setTangent_1 : decode cX4_setTangent 1 = .ok (.iload_n 1, 1) := by decide +kernel
theorem dX4_setTangent_2 : decode cX4_setTangent 2 = .ok (.iload_n 2, 1) := by decide +kernel
theorem dX4_setTangent_3 : decode cX4_setTangent 3 = .ok (.invokevirtual 101, 3) := by decide +kernel
theorem dX4_setTangent_6 : decode cX4_setTangent 6 = .ok (.ifCond .ne 9, 3) := by decide +kernel
theorem dX4_setTangent_9 : decode cX4_setTangent 9 = .ok (.aload_n 0, 1) := by decide +kernel
theorem dX4_setTangent_10 : decode cX4_setTangent 10 = .ok (.iconst 1, 1) := by decide +kernel
theorem dX4_setTangent_11 : decode cX4_setTangent 11 = .ok (.invokevirtual 79, 3) := by decide +kernel
theorem dX4_setTangent_14 : decode cX4_setTangent 14 = .ok (.ireturn, 1) := by decide +kernel
theorem dX4_setTangent_15 : decode cX4_setTangent 15 = .ok (.iload_n 3, 1) := by decide +kernel
theorem dX4_setTangent_16 : decode cX4_setTangent 16 = .ok (.iconst 0, 1) := by decide +kernel
theorem dX4_setTangent_17 : decode cX4_setTangent 17 = .ok (.iconst 2, 1) := by decide +kernel
theorem dX4_setTangent_18 : decode cX4_setTangent 18 = .ok (.invokestatic 42, 3) := by decide +kernel
theorem dX4_setTangent_21 : decode cX4_setTangent 21 = .ok (.ifCond .eq 15, 3) := by decide +kernel
theorem dX4_setTangent_24 : decode cX4_setTangent 24 = .ok (.iload 4, 2) := by decide +kernel
theorem dX4_setTangent_26 : decode cX4_setTangent 26 = .ok (.ldc 109, 2) := by decide +kernel
theorem dX4_setTangent_28 : decode cX4_setTangent 28 = .ok (.ldc 110, 2) := by decide +kernel
theorem dX4_setTangent_30 : decode cX4_setTangent 30 = .ok (.invokestatic 42, 3) := by decide +kernel
theorem dX4_setTangent_33 : decode cX4_setTangent 33 = .ok (.ifCond .ne 9, 3) := by decide +kernel
theorem dX4_setTangent_36 : decode cX4_setTangent 36 = .ok (.aload_n 0, 1) := by decide +kernel
theorem dX4_setTangent_37 : decode cX4_setTangent 37 = .ok (.iconst 2, 1) := by decide +kernel
theorem dX4_setTangent_38 : decode cX4_setTangent 38 = .ok (.invokevirtual 79, 3) := by decide +kernel
theorem dX4_setTangent_41 : decode cX4_setTangent 41 = .ok (.ireturn, 1) := by decide +kernel
theorem dX4_setTangent_42 : decode cX4_setTangent 42 = .ok (.aload_n 0, 1) := by decide +kernel
theorem dX4_setTangent_43 : decode cX4_setTangent 43 = .ok (.iload_n 1, 1) := by decide +kernel
theorem dX4_setTangent_44 : decode cX4_setTangent 44 = .ok (.iload_n 2, 1) := by decide +kernel
theorem dX4_setTangent_45 : decode cX4_setTangent 45 = .ok (.iconst 5, 1) := by decide +kernel
theorem dX4_setTangent_46 : decode cX4_setTangent 46 = .ok (.invokevirtual 57, 3) := by decide +kernel
theorem dX4_setTangent_49 : decode cX4_setTangent 49 = .ok (.iconst 1, 1) := by decide +kernel
theorem dX4_setTangent_50 : decode cX4_setTangent 50 = .ok (.if_icmp .ne 9, 3) := by decide +kernel
theorem dX4_setTangent_53 : decode cX4_setTangent 53 = .ok (.aload_n 0, 1) := by decide +kernel
theorem dX4_setTangent_54 : decode cX4_setTangent 54 = .ok (.iconst 3, 1) := by decide +kernel
theorem dX4_setTangent_55 : decode cX4_setTangent 55 = .ok (.invokevirtual 79, 3) := by decide +kernel
theorem dX4_setTangent_58 : decode cX4_setTangent 58 = .ok (.ireturn, 1) := by decide +kernel
theorem dX4_setTangent_59 : decode cX4_setTangent 59 = .ok (.aload_n 0, 1) := by decide +kernel
theorem dX4_setTangent_60 : decode cX4_setTangent 60 = .ok (.invokevirtual 91, 3) := by decide +kernel
theorem dX4_setTangent_63 : decode cX4_setTangent 63 = .ok (.aload_n 0, 1) := by decide +kernel
theorem dX4_setTangent_64 : decode cX4_setTangent 64 = .ok (.iload_n 1, 1) := by decide +kernel
theorem dX4_setTangent_65 : decode cX4_setTangent 65 = .ok (.iload_n 2, 1) := by decide +kernel
theorem dX4_setTangent_66 : decode cX4_setTangent 66 = .ok (.invokevirtual 71, 3) := by decide +kernel
theorem dX4_setTangent_69 : decode cX4_setTangent 69 = .ok (.istore 5, 2) := by decide +kernel
theorem dX4_setTangent_71 : decode cX4_setTangent 71 = .ok (.aload_n 0, 1) := by decide +kernel
theorem dX4_setTangent_72 : decode cX4_setTangent 72 = .ok (.getfield 7, 3) := by decide +kernel
theorem dX4_setTangent_75 : decode cX4_setTangent 75 = .ok (.iload_n 1, 1) := by decide +kernel
theorem dX4_setTangent_76 : decode cX4_setTangent 76 = .ok (.iload_n 2, 1) := by decide +kernel
theorem dX4_setTangent_77 : decode cX4_setTangent 77 = .ok (.invokestatic 53, 3) := by decide +kernel
theorem dX4_setTangent_80 : decode cX4_setTangent 80 = .ok (.iconst 3, 1) := by decide +kernel
theorem dX4_setTangent_81 : decode cX4_setTangent 81 = .ok (.iadd, 1) := by decide +kernel
theorem dX4_setTangent_82 : decode cX4_setTangent 82 = .ok (.iload_n 3, 1) := by decide +kernel
theorem dX4_setTangent_83 : decode cX4_setTangent 83 = .ok (.iastore, 1) := by decide +kernel
theorem dX4_setTangent_84 : decode cX4_setTangent 84 = .ok (.aload_n 0, 1) := by decide +kernel
theorem dX4_setTangent_85 : decode cX4_setTangent 85 = .ok (.getfield 7, 3) := by decide +kernel
theorem dX4_setTangent_88 : decode cX4_setTangent 88 = .ok (.iload_n 1, 1) := by decide +kernel
theorem dX4_setTangent_89 : decode cX4_setTangent 89 = .ok (.iload_n 2, 1) := by decide +kernel
theorem dX4_setTangent_90 : decode cX4_setTangent 90 = .ok (.invokestatic 53, 3) := by decide +kernel
theorem dX4_setTangent_93 : decode cX4_setTangent 93 = .ok (.iconst 4, 1) := by decide +kernel
theorem dX4_setTangent_94 : decode cX4_setTangent 94 = .ok (.iadd, 1) := by decide +kernel
theorem dX4_setTangent_95 : decode cX4_setTangent 95 = .ok (.iload 4, 2) := by decide +kernel
theorem dX4_setTangent_97 : decode cX4_setTangent 97 = .ok (.iastore, 1) := by decide +kernel
theorem dX4_setTangent_98 : decode cX4_setTangent 98 = .ok (.aload_n 0, 1) := by decide +kernel
theorem dX4_setTangent_99 : decode cX4_setTangent 99 = .ok (.iload 5, 2) := by decide +kernel
theorem dX4_setTangent_101 : decode cX4_setTangent 101 = .ok (.invokevirtual 98, 3) := by decide +kernel
theorem dX4_setTangent_104 : decode cX4_setTangent 104 = .ok (.ireturn, 1) := by decide +kernel
set_option maxRecDepth 20000 in
theorem ggX4_lock_X4_isKey : GoodIn wsX4_lock wsX4_isKey := goodIn_r _ [6, 7, 8, 5, 9, 10, 11, 12, 13, 14, 15, 16, 1, 44, 45, 46, 47, 48, 49, 50, 51, 52, 53, 54] (by decide +kernel) (by decide +kernel)
set_option maxRecDepth 20000 in
theorem gX4_lock_X4_isKey : GoodIn wsX4_lock (wsV RX4 101 RX4 yX4_isKey wsX4_isKey) := goodIn_app (goodIn_of _ (by decide +kernel)) ggX4_lock_X4_isKey
set_option maxRecDepth 20000 in
theorem ggX4_lock_X4_fails : GoodIn wsX4_lock wsX4_fails := goodIn_r _ [20, 21, 44, 45, 46, 47, 48, 49, 50, 51, 52, 53, 54] (by decide +kernel) (by decide +kernel)
set_option maxRecDepth 20000 in
theorem gX4_lock_X4_fails : GoodIn wsX4_lock (wsV RX4 79 RX4 yX4_fails wsX4_fails) := goodIn_app (goodIn_of _ (by decide +kernel)) ggX4_lock_X4_fails
set_option maxRecDepth 20000 in
theorem ggX4_lock_X4_hold : GoodIn wsX4_lock wsX4_hold := goodIn_r _ [25, 26, 1, 44, 45, 46, 47, 48, 49, 50, 51, 52, 53, 54] (by decide +kernel) (by decide +kernel)
set_option maxRecDepth 20000 in
theorem gX4_lock_X4_hold : GoodIn wsX4_lock (wsV RX4 91 RX4 yX4_hold wsX4_hold) := goodIn_app (goodIn_of _ (by decide +kernel)) ggX4_lock_X4_hold
set_option maxRecDepth 20000 in
theorem ggX4_lock_X4_of : GoodIn wsX4_lock wsX4_of := goodIn_r _ [30, 1, 31, 32, 5, 33, 44, 45, 46, 47, 48, 49, 50, 51, 52, 53, 54] (by decide +kernel) (by decide +kernel)
set_option maxRecDepth 20000 in
theorem gX4_lock_X4_of : GoodIn wsX4_lock (wsV RX4 57 RX4 yX4_of wsX4_of) := goodIn_app (goodIn_of _ (by decide +kernel)) ggX4_lock_X4_of
set_option maxRecDepth 20000 in
theorem ggX4_lock_X4_spot : GoodIn wsX4_lock wsX4_spot := goodIn_r _ [33] (by decide +kernel) (by decide +kernel)
set_option maxRecDepth 20000 in
theorem gX4_lock_X4_spot : GoodIn wsX4_lock (va_wsS RX4 53 yX4_spot wsX4_spot) := goodIn_app (goodIn_of _ (by decide +kernel)) ggX4_lock_X4_spot
set_option maxRecDepth 20000 in
theorem ggX4_lock_X4_ends : GoodIn wsX4_lock wsX4_ends := goodIn_r _ [37, 38, 39, 26, 40, 41, 42, 5, 43, 21, 44, 45, 46, 47, 48, 49, 50, 51, 52, 53, 54] (by decide +kernel) (by decide +kernel)
set_option maxRecDepth 20000 in
theorem gX4_lock_X4_ends : GoodIn wsX4_lock (wsV RX4 98 RX4 yX4_ends wsX4_ends) := goodIn_app (goodIn_of _ (by decide +kernel)) ggX4_lock_X4_ends
theorem dX4_lock_0 : decode cX4_lock 0 = .ok (.aload_n 0, 1) := by decide +kernel
theorem dX4_lock_1 : decode cX4_lock 1 = .ok (.iload_n 1, 1) := by decide +kernel
theorem dX4_lock_2 : decode cX4_lock 2 = .ok (.iload_n 2, 1) := by decide +kernel
theorem dX4_lock_3 : decode cX4_lock 3 = .ok (.invokevirtual 101, 3) := by decide +kernel
theorem dX4_lock_6 : decode cX4_lock 6 = .ok (.ifCond .ne 9, 3) := by decide +kernel
theorem dX4_lock_9 : decode cX4_lock 9 = .ok (.aload_n 0, 1) := by decide +kernel
theorem dX4_lock_10 : decode cX4_lock 10 = .ok (.iconst 1, 1) := by decide +kernel
theorem dX4_lock_11 : decode cX4_lock 11 = .ok (.invokevirtual 79, 3) := by decide +kernel
theorem dX4_lock_14 : decode cX4_lock 14 = .ok (.ireturn, 1) := by decide +kernel
theorem dX4_lock_15 : decode cX4_lock 15 = .ok (.aload_n 0, 1) := by decide +kernel
theorem dX4_lock_16 : decode cX4_lock 16 = .ok (.invokevirtual 91, 3) := by decide +kernel
theorem dX4_lock_19 : decode cX4_lock 19 = .ok (.aload_n 0, 1) := by decide +kernel
theorem dX4_lock_20 : decode cX4_lock 20 = .ok (.iload_n 1, 1) := by decide +kernel
theorem dX4_lock_21 : decode cX4_lock 21 = .ok (.iload_n 2, 1) := by decide +kernel
theorem dX4_lock_22 : decode cX4_lock 22 = .ok (.iconst 5, 1) := by decide +kernel
theorem dX4_lock_23 : decode cX4_lock 23 = .ok (.invokevirtual 57, 3) := by decide +kernel
theorem dX4_lock_26 : decode cX4_lock 26 = .ok (.istore 4, 2) := by decide +kernel
theorem dX4_lock_28 : decode cX4_lock 28 = .ok (.aload_n 0, 1) := by decide +kernel
theorem dX4_lock_29 : decode cX4_lock 29 = .ok (.getfield 7, 3) := by decide +kernel
theorem dX4_lock_32 : decode cX4_lock 32 = .ok (.iload_n 1, 1) := by decide +kernel
theorem dX4_lock_33 : decode cX4_lock 33 = .ok (.iload_n 2, 1) := by decide +kernel
theorem dX4_lock_34 : decode cX4_lock 34 = .ok (.invokestatic 53, 3) := by decide +kernel
theorem dX4_lock_37 : decode cX4_lock 37 = .ok (.iconst 5, 1) := by decide +kernel
theorem dX4_lock_38 : decode cX4_lock 38 = .ok (.iadd, 1) := by decide +kernel
theorem dX4_lock_39 : decode cX4_lock 39 = .ok (.iload_n 3, 1) := by decide +kernel
theorem dX4_lock_40 : decode cX4_lock 40 = .ok (.ifCond .eq 7, 3) := by decide +kernel
theorem dX4_lock_43 : decode cX4_lock 43 = .ok (.iconst 1, 1) := by decide +kernel
theorem dX4_lock_44 : decode cX4_lock 44 = .ok (.goto 4, 3) := by decide +kernel
theorem dX4_lock_47 : decode cX4_lock 47 = .ok (.iconst 0, 1) := by decide +kernel
theorem dX4_lock_48 : decode cX4_lock 48 = .ok (.iastore, 1) := by decide +kernel
theorem dX4_lock_49 : decode cX4_lock 49 = .ok (.aload_n 0, 1) := by decide +kernel
theorem dX4_lock_50 : decode cX4_lock 50 = .ok (.iload 4, 2) := by decide +kernel
theorem dX4_lock_52 : decode cX4_lock 52 = .ok (.invokevirtual 98, 3) := by decide +kernel
theorem dX4_lock_55 : decode cX4_lock 55 = .ok (.ireturn, 1) := by decide +kernel
theorem dX4_stretched_0 : decode cX4_stretched 0 = .ok (.iload_n 0, 1) := by decide +kernel
theorem dX4_stretched_1 : decode cX4_stretched 1 = .ok (.iload_n 1, 1) := by decide +kernel
theorem dX4_stretched_2 : decode cX4_stretched 2 = .ok (.if_icmp .ge 5, 3) := by decide +kernel
theorem dX4_stretched_5 : decode cX4_stretched 5 = .ok (.iload_n 0, 1) := by decide +kernel
theorem dX4_stretched_6 : decode cX4_stretched 6 = .ok (.ireturn, 1) := by decide +kernel
theorem dX4_stretched_7 : decode cX4_stretched 7 = .ok (.iload_n 0, 1) := by decide +kernel
theorem dX4_stretched_8 : decode cX4_stretched 8 = .ok (.iload_n 2, 1) := by decide +kernel
theorem dX4_stretched_9 : decode cX4_stretched 9 = .ok (.if_icmp .gt 16, 3) := by decide +kernel
theorem dX4_stretched_12 : decode cX4_stretched 12 = .ok (.iload_n 1, 1) := by decide +kernel
theorem dX4_stretched_13 : decode cX4_stretched 13 = .ok (.iload_n 0, 1) := by decide +kernel
theorem dX4_stretched_14 : decode cX4_stretched 14 = .ok (.iload_n 1, 1) := by decide +kernel
theorem dX4_stretched_15 : decode cX4_stretched 15 = .ok (.isub, 1) := by decide +kernel
theorem dX4_stretched_16 : decode cX4_stretched 16 = .ok (.iload_n 3, 1) := by decide +kernel
theorem dX4_stretched_17 : decode cX4_stretched 17 = .ok (.imul, 1) := by decide +kernel
theorem dX4_stretched_18 : decode cX4_stretched 18 = .ok (.bipush 100, 2) := by decide +kernel
theorem dX4_stretched_20 : decode cX4_stretched 20 = .ok (.idiv, 1) := by decide +kernel
theorem dX4_stretched_21 : decode cX4_stretched 21 = .ok (.iadd, 1) := by decide +kernel
theorem dX4_stretched_22 : decode cX4_stretched 22 = .ok (.goto 17, 3) := by decide +kernel
theorem dX4_stretched_25 : decode cX4_stretched 25 = .ok (.iload_n 0, 1) := by decide +kernel
theorem dX4_stretched_26 : decode cX4_stretched 26 = .ok (.iload_n 2, 1) := by decide +kernel
theorem dX4_stretched_27 : decode cX4_stretched 27 = .ok (.iload_n 1, 1) := by decide +kernel
theorem dX4_stretched_28 : decode cX4_stretched 28 = .ok (.isub, 1) := by decide +kernel
theorem dX4_stretched_29 : decode cX4_stretched 29 = .ok (.iload_n 3, 1) := by decide +kernel
theorem dX4_stretched_30 : decode cX4_stretched 30 = .ok (.imul, 1) := by decide +kernel
theorem dX4_stretched_31 : decode cX4_stretched 31 = .ok (.bipush 100, 2) := by decide +kernel
theorem dX4_stretched_33 : decode cX4_stretched 33 = .ok (.idiv, 1) := by decide +kernel
theorem dX4_stretched_34 : decode cX4_stretched 34 = .ok (.iadd, 1) := by decide +kernel
theorem dX4_stretched_35 : decode cX4_stretched 35 = .ok (.iload_n 2, 1) := by decide +kernel
theorem dX4_stretched_36 : decode cX4_stretched 36 = .ok (.iload_n 1, 1) := by decide +kernel
theorem dX4_stretched_37 : decode cX4_stretched 37 = .ok (.isub, 1) := by decide +kernel
theorem dX4_stretched_38 : decode cX4_stretched 38 = .ok (.isub, 1) := by decide +kernel
theorem dX4_stretched_39 : decode cX4_stretched 39 = .ok (.ireturn, 1) := by decide +kernel
set_option maxRecDepth 20000 in
theorem ggX4_mayStretch_X4_many : GoodIn wsX4_mayStretch wsX4_many := goodIn_r _ [5, 6, 17, 18, 19, 20, 21, 22, 23, 24, 25, 26, 27] (by decide +kernel) (by decide +kernel)
set_option maxRecDepth 20000 in
theorem gX4_mayStretch_X4_many : GoodIn wsX4_mayStretch (wsV RX4 50 RX4 yX4_many wsX4_many) := goodIn_app (goodIn_of _ (by decide +kernel)) ggX4_mayStretch_X4_many
set_option maxRecDepth 20000 in
theorem ggX4_mayStretch_X4_of : GoodIn wsX4_mayStretch wsX4_of := goodIn_r _ [10, 6, 11, 12, 4, 13, 17, 18, 19, 20, 21, 22, 23, 24, 25, 26, 27] (by decide +kernel) (by decide +kernel)
set_option maxRecDepth 20000 in
theorem gX4_mayStretch_X4_of : GoodIn wsX4_mayStretch (wsV RX4 57 RX4 yX4_of wsX4_of) := goodIn_app (goodIn_of _ (by decide +kernel)) ggX4_mayStretch_X4_of
set_option maxRecDepth 20000 in
theorem ggX4_mayStretch_X4_stretched : GoodIn wsX4_mayStretch wsX4_stretched := goodIn_r _ [16] (by decide +kernel) (by decide +kernel)
set_option maxRecDepth 20000 in
theorem gX4_mayStretch_X4_stretched : GoodIn wsX4_mayStretch (va_wsS RX4 111 yX4_stretched wsX4_stretched) := goodIn_app (goodIn_of _ (by decide +kernel)) ggX4_mayStretch_X4_stretched
theorem dX4_mayStretch_0 : decode cX4_mayStretch 0 = .ok (.iconst (-1), 1) := by decide +kernel
theorem dX4_mayStretch_1 : decode cX4_mayStretch 1 = .ok (.istore 5, 2) := by decide +kernel
theorem dX4_mayStretch_3 : decode cX4_mayStretch 3 = .ok (.iconst 1, 1) := by decide +kernel
theorem dX4_mayStretch_4 : decode cX4_mayStretch 4 = .ok (.istore 6, 2) := by decide +kernel
theorem dX4_mayStretch_6 : decode cX4_mayStretch 6 = .ok (.iconst 0, 1) := by decide +kernel
theorem dX4_mayStretch_7 : decode cX4_mayStretch 7 = .ok (.istore 7, 2) := by decide +kernel
theorem dX4_mayStretch_9 : decode cX4_mayStretch 9 = .ok (.iload 7, 2) := by decide +kernel
theorem dX4_mayStretch_11 : decode cX4_mayStretch 11 = .ok (.aload_n 0, 1) := by decide +kernel
theorem dX4_mayStretch_12 : decode cX4_mayStretch 12 = .ok (.iload_n 1, 1) := by decide +kernel
theorem dX4_mayStretch_13 : decode cX4_mayStretch 13 = .ok (.invokevirtual 50, 3) := by decide +kernel
theorem dX4_mayStretch_16 : decode cX4_mayStretch 16 = .ok (.if_icmp .ge 81, 3) := by decide +kernel
theorem dX4_mayStretch_19 : decode cX4_mayStretch 19 = .ok (.aload_n 0, 1) := by decide +kernel
theorem dX4_mayStretch_20 : decode cX4_mayStretch 20 = .ok (.iload_n 1, 1) := by decide +kernel
theorem dX4_mayStretch_21 : decode cX4_mayStretch 21 = .ok (.iload 7, 2) := by decide +kernel
theorem dX4_mayStretch_23 : decode cX4_mayStretch 23 = .ok (.iconst 0, 1) := by decide +kernel
theorem dX4_mayStretch_24 : decode cX4_mayStretch 24 = .ok (.invokevirtual 57, 3) := by decide +kernel
theorem dX4_mayStretch_27 : decode cX4_mayStretch 27 = .ok (.iload_n 2, 1) := by decide +kernel
theorem dX4_mayStretch_28 : decode cX4_mayStretch 28 = .ok (.iload_n 3, 1) := by decide +kernel
theorem dX4_mayStretch_29 : decode cX4_mayStretch 29 = .ok (.iload 4, 2) := by decide +kernel
theorem dX4_mayStretch_31 : decode cX4_mayStretch 31 = .ok (.invokestatic 111, 3) := by decide +kernel
theorem dX4_mayStretch_34 : decode cX4_mayStretch 34 = .ok (.istore 8, 2) := by decide +kernel
theorem dX4_mayStretch_36 : decode cX4_mayStretch 36 = .ok (.iload 6, 2) := by decide +kernel
theorem dX4_mayStretch_38 : decode cX4_mayStretch 38 = .ok (.ifCond .eq 46, 3) := by decide +kernel
theorem dX4_mayStretch_41 : decode cX4_mayStretch 41 = .ok (.iload 8, 2) := by decide +kernel
theorem dX4_mayStretch_43 : decode cX4_mayStretch 43 = .ok (.sipush 999, 3) := by decide +kernel
theorem dX4_mayStretch_46 : decode cX4_mayStretch 46 = .ok (.if_icmp .gt 38, 3) := by decide +kernel
theorem dX4_mayStretch_49 : decode cX4_mayStretch 49 = .ok (.iload 8, 2) := by decide +kernel
theorem dX4_mayStretch_51 : decode cX4_mayStretch 51 = .ok (.iload 5, 2) := by decide +kernel
theorem dX4_mayStretch_53 : decode cX4_mayStretch 53 = .ok (.if_icmp .eq 31, 3) := by decide +kernel
theorem dX4_mayStretch_56 : decode cX4_mayStretch 56 = .ok (.aload_n 0, 1) := by decide +kernel
theorem dX4_mayStretch_57 : decode cX4_mayStretch 57 = .ok (.iload_n 1, 1) := by decide +kernel
theorem dX4_mayStretch_58 : decode cX4_mayStretch 58 = .ok (.iload 7, 2) := by decide +kernel
theorem dX4_mayStretch_60 : decode cX4_mayStretch 60 = .ok (.iconst 5, 1) := by decide +kernel
theorem dX4_mayStretch_61 : decode cX4_mayStretch 61 = .ok (.invokevirtual 57, 3) := by decide +kernel
theorem dX4_mayStretch_64 : decode cX4_mayStretch 64 = .ok (.ifCond .eq 16, 3) := by decide +kernel
theorem dX4_mayStretch_67 : decode cX4_mayStretch 67 = .ok (.iload 8, 2) := by decide +kernel
theorem dX4_mayStretch_69 : decode cX4_mayStretch 69 = .ok (.aload_n 0, 1) := by decide +kernel
theorem dX4_mayStretch_70 : decode cX4_mayStretch 70 = .ok (.iload_n 1, 1) := by decide +kernel
theorem dX4_mayStretch_71 : decode cX4_mayStretch 71 = .ok (.iload 7, 2) := by decide +kernel
theorem dX4_mayStretch_73 : decode cX4_mayStretch 73 = .ok (.iconst 0, 1) := by decide +kernel
theorem dX4_mayStretch_74 : decode cX4_mayStretch 74 = .ok (.invokevirtual 57, 3) := by decide +kernel
theorem dX4_mayStretch_77 : decode cX4_mayStretch 77 = .ok (.if_icmp .ne 7, 3) := by decide +kernel
theorem dX4_mayStretch_80 : decode cX4_mayStretch 80 = .ok (.iconst 1, 1) := by decide +kernel
theorem dX4_mayStretch_81 : decode cX4_mayStretch 81 = .ok (.goto 4, 3) := by decide +kernel
theorem dX4_mayStretch_84 : decode cX4_mayStretch 84 = .ok (.iconst 0, 1) := by decide +kernel
theorem dX4_mayStretch_85 : decode cX4_mayStretch 85 = .ok (.istore 6, 2) := by decide +kernel
theorem dX4_mayStretch_87 : decode cX4_mayStretch 87 = .ok (.iload 8, 2) := by decide +kernel
theorem dX4_mayStretch_89 : decode cX4_mayStretch 89 = .ok (.istore 5, 2) := by decide +kernel
theorem dX4_mayStretch_91 : decode cX4_mayStretch 91 = .ok (.iinc 7 1, 3) := by decide +kernel
theorem dX4_mayStretch_94 : decode cX4_mayStretch 94 = .ok (.goto (-85), 3) := by decide +kernel
theorem dX4_mayStretch_97 : decode cX4_mayStretch 97 = .ok (.iload 6, 2) := by decide +kernel
theorem dX4_mayStretch_99 : decode cX4_mayStretch 99 = .ok (.ireturn, 1) := by decide +kernel
set_option maxRecDepth 20000 in
theorem ggX4_isSpan_X4_in : GoodIn wsX4_isSpan wsX4_in := goodIn_r _ [4] (by decide +kernel) (by decide +kernel)
set_option maxRecDepth 20000 in
theorem gX4_isSpan_X4_in : GoodIn wsX4_isSpan (va_wsS RX4 42 yX4_in wsX4_in) := goodIn_app (goodIn_of _ (by decide +kernel)) ggX4_isSpan_X4_in
theorem dX4_isSpan_0 : decode cX4_isSpan 0 = .ok (.iload_n 0, 1) := by decide +kernel
theorem dX4_isSpan_1 : decode cX4_isSpan 1 = .ok (.iconst 0, 1) := by decide +kernel
theorem dX4_isSpan_2 : decode cX4_isSpan 2 = .ok (.sipush 998, 3) := by decide +kernel
theorem dX4_isSpan_5 : decode cX4_isSpan 5 = .ok (.invokestatic 42, 3) := by decide +kernel
theorem dX4_isSpan_8 : decode cX4_isSpan 8 = .ok (.ifCond .eq 20, 3) := by decide +kernel
theorem dX4_isSpan_11 : decode cX4_isSpan 11 = .ok (.iload_n 1, 1) := by decide +kernel
theorem dX4_isSpan_12 : decode cX4_isSpan 12 = .ok (.iload_n 0, 1) := by decide +kernel
theorem dX4_isSpan_13 : decode cX4_isSpan 13 = .ok (.iconst 1, 1) := by decide +kernel
theorem dX4_isSpan_14 : decode cX4_isSpan 14 = .ok (.iadd, 1) := by decide +kernel
theorem dX4_isSpan_15 : decode cX4_isSpan 15 = .ok (.sipush 999, 3) := by decide +kernel
theorem dX4_isSpan_18 : decode cX4_isSpan 18 = .ok (.invokestatic 42, 3) := by decide +kernel
theorem dX4_isSpan_21 : decode cX4_isSpan 21 = .ok (.ifCond .eq 7, 3) := by decide +kernel
theorem dX4_isSpan_24 : decode cX4_isSpan 24 = .ok (.iconst 1, 1) := by decide +kernel
theorem dX4_isSpan_25 : decode cX4_isSpan 25 = .ok (.goto 4, 3) := by decide +kernel
theorem dX4_isSpan_28 : decode cX4_isSpan 28 = .ok (.iconst 0, 1) := by decide +kernel
theorem dX4_isSpan_29 : decode cX4_isSpan 29 = .ok (.ireturn, 1) := by decide +kernel
set_option maxRecDepth 20000 in
theorem ggX4_stretch_X4_isCurve : GoodIn wsX4_stretch wsX4_isCurve := goodIn_r _ [5, 6, 7, 4, 8] (by decide +kernel) (by decide +kernel)
set_option maxRecDepth 20000 in
theorem gX4_stretch_X4_isCurve : GoodIn wsX4_stretch (va_wsS RX4 46 yX4_isCurve wsX4_isCurve) := goodIn_app (goodIn_of _ (by decide +kernel)) ggX4_stretch_X4_isCurve
set_option maxRecDepth 20000 in
theorem ggX4_stretch_X4_fails : GoodIn wsX4_stretch wsX4_fails := goodIn_r _ [12, 13, 50, 51, 52, 53, 54, 55, 56, 57, 58, 59, 60] (by decide +kernel) (by decide +kernel)
set_option maxRecDepth 20000 in
theorem gX4_stretch_X4_fails : GoodIn wsX4_stretch (wsV RX4 79 RX4 yX4_fails wsX4_fails) := goodIn_app (goodIn_of _ (by decide +kernel)) ggX4_stretch_X4_fails
set_option maxRecDepth 20000 in
theorem ggX4_stretch_X4_isSpan : GoodIn wsX4_stretch wsX4_isSpan := goodIn_r _ [16, 6, 7, 4, 8] (by decide +kernel) (by decide +kernel)
set_option maxRecDepth 20000 in
theorem gX4_stretch_X4_isSpan : GoodIn wsX4_stretch (va_wsS RX4 114 yX4_isSpan wsX4_isSpan) := goodIn_app (goodIn_of _ (by decide +kernel)) ggX4_stretch_X4_isSpan
set_option maxRecDepth 20000 in
theorem ggX4_stretch_X4_in : GoodIn wsX4_stretch wsX4_in := goodIn_r _ [8] (by decide +kernel) (by decide +kernel)
set_option maxRecDepth 20000 in
theorem gX4_stretch_X4_in : GoodIn wsX4_stretch (va_wsS RX4 42 yX4_in wsX4_in) := goodIn_app (goodIn_of _ (by decide +kernel)) ggX4_stretch_X4_in
set_option maxRecDepth 20000 in
theorem ggX4_stretch_X4_mayStretch : GoodIn wsX4_stretch wsX4_mayStretch := goodIn_r _ [20, 21, 22, 23, 4, 24, 1, 25, 26, 27, 28, 29, 30, 31, 32, 33, 34, 50, 51, 52, 53, 54, 55, 56, 57, 58, 59, 60] (by decide +kernel) (by decide +kernel)
set_option maxRecDepth 20000 in
theorem gX4_stretch_X4_mayStretch : GoodIn wsX4_stretch (wsV RX4 117 RX4 yX4_mayStretch wsX4_mayStretch) := goodIn_app (goodIn_of _ (by decide +kernel)) ggX4_stretch_X4_mayStretch
set_option maxRecDepth 20000 in
theorem ggX4_stretch_X4_hold : GoodIn wsX4_stretch wsX4_hold := goodIn_r _ [38, 39, 1, 50, 51, 52, 53, 54, 55, 56, 57, 58, 59, 60] (by decide +kernel) (by decide +kernel)
set_option maxRecDepth 20000 in
theorem gX4_stretch_X4_hold : GoodIn wsX4_stretch (wsV RX4 91 RX4 yX4_hold wsX4_hold) := goodIn_app (goodIn_of _ (by decide +kernel)) ggX4_stretch_X4_hold
set_option maxRecDepth 20000 in
theorem ggX4_stretch_X4_many : GoodIn wsX4_stretch wsX4_many := goodIn_r _ [24, 1, 50, 51, 52, 53, 54, 55, 56, 57, 58, 59, 60] (by decide +kernel) (by decide +kernel)
set_option maxRecDepth 20000 in
theorem gX4_stretch_X4_many : GoodIn wsX4_stretch (wsV RX4 50 RX4 yX4_many wsX4_many) := goodIn_app (goodIn_of _ (by decide +kernel)) ggX4_stretch_X4_many
set_option maxRecDepth 20000 in
theorem ggX4_stretch_X4_of : GoodIn wsX4_stretch wsX4_of := goodIn_r _ [28, 1, 29, 30, 4, 31, 50, 51, 52, 53, 54, 55, 56, 57, 58, 59, 60] (by decide +kernel) (by decide +kernel)
set_option maxRecDepth 20000 in
theorem gX4_stretch_X4_of : GoodIn wsX4_stretch (wsV RX4 57 RX4 yX4_of wsX4_of) := goodIn_app (goodIn_of _ (by decide +kernel)) ggX4_stretch_X4_of
set_option maxRecDepth 20000 in
theorem ggX4_stretch_X4_stretched : GoodIn wsX4_stretch wsX4_stretched := goodIn_r _ [34] (by decide +kernel) (by decide +kernel)
set_option maxRecDepth 20000 in
theorem gX4_stretch_X4_stretched : GoodIn wsX4_stretch (va_wsS RX4 111 yX4_stretched wsX4_stretched) := goodIn_app (goodIn_of _ (by decide +kernel)) ggX4_stretch_X4_stretched
set_option maxRecDepth 20000 in
theorem ggX4_stretch_X4_spot : GoodIn wsX4_stretch wsX4_spot := goodIn_r _ [31] (by decide +kernel) (by decide +kernel)
set_option maxRecDepth 20000 in
theorem gX4_stretch_X4_spot : GoodIn wsX4_stretch (va_wsS RX4 53 yX4_spot wsX4_spot) := goodIn_app (goodIn_of _ (by decide +kernel)) ggX4_stretch_X4_spot
set_option maxRecDepth 20000 in
theorem ggX4_stretch_X4_ends : GoodIn wsX4_stretch wsX4_ends := goodIn_r _ [43, 44, 45, 39, 46, 47, 48, 4, 49, 13, 50, 51, 52, 53, 54, 55, 56, 57, 58, 59, 60] (by decide +kernel) (by decide +kernel)
set_option maxRecDepth 20000 in
theorem gX4_stretch_X4_ends : GoodIn wsX4_stretch (wsV RX4 98 RX4 yX4_ends wsX4_ends) := goodIn_app (goodIn_of _ (by decide +kernel)) ggX4_stretch_X4_ends
theorem dX4_stretch_0 : decode cX4_stretch 0 = .ok (.iload_n 1, 1) := by decide +kernel
theorem dX4_stretch_1 : decode cX4_stretch 1 = .ok (.invokestatic 46, 3) := by decide +kernel
theorem dX4_stretch_4 : decode cX4_stretch 4 = .ok (.ifCond .ne 9, 3) := by decide +kernel
theorem dX4_stretch_7 : decode cX4_stretch 7 = .ok (.aload_n 0, 1) := by decide +kernel
theorem dX4_stretch_8 : decode cX4_stretch 8 = .ok (.iconst 1, 1) := by decide +kernel
theorem dX4_stretch_9 : decode cX4_stretch 9 = .ok (.invokevirtual 79, 3) := by decide +kernel
theorem dX4_stretch_12 : decode cX4_stretch 12 = .ok (.ireturn, 1) := by decide +kernel
theorem dX4_stretch_13 : decode cX4_stretch 13 = .ok (.iload_n 2, 1) := by decide +kernel
theorem dX4_stretch_14 : decode cX4_stretch 14 = .ok (.iload_n 3, 1) := by decide +kernel
theorem dX4_stretch_15 : decode cX4_stretch 15 = .ok (.invokestatic 114, 3) := by decide +kernel
theorem dX4_stretch_18 : decode cX4_stretch 18 = .ok (.ifCond .eq 16, 3) := by decide +kernel
theorem dX4_stretch_21 : decode cX4_stretch 21 = .ok (.iload 4, 2) := by decide +kernel
theorem dX4_stretch_23 : decode cX4_stretch 23 = .ok (.bipush 10, 2) := by decide +kernel
theorem dX4_stretch_25 : decode cX4_stretch 25 = .ok (.sipush 500, 3) := by decide +kernel
theorem dX4_stretch_28 : decode cX4_stretch 28 = .ok (.invokestatic 42, 3) := by decide +kernel
theorem dX4_stretch_31 : decode cX4_stretch 31 = .ok (.ifCond .ne 9, 3) := by decide +kernel
theorem dX4_stretch_34 : decode cX4_stretch 34 = .ok (.aload_n 0, 1) := by decide +kernel
theorem dX4_stretch_35 : decode cX4_stretch 35 = .ok (.iconst 2, 1) := by decide +kernel
theorem dX4_stretch_36 : decode cX4_stretch 36 = .ok (.invokevirtual 79, 3) := by decide +kernel
theorem dX4_stretch_39 : decode cX4_stretch 39 = .ok (.ireturn, 1) := by decide +kernel
theorem dX4_stretch_40 : decode cX4_stretch 40 = .ok (.aload_n 0, 1) := by decide +kernel
theorem dX4_stretch_41 : decode cX4_stretch 41 = .ok (.iload_n 1, 1) := by decide +kernel
theorem dX4_stretch_42 : decode cX4_stretch 42 = .ok (.iload_n 2, 1) := by decide +kernel
theorem dX4_stretch_43 : decode cX4_stretch 43 = .ok (.iload_n 3, 1) := by decide +kernel
theorem dX4_stretch_44 : decode cX4_stretch 44 = .ok (.iload 4, 2) := by decide +kernel
theorem dX4_stretch_46 : decode cX4_stretch 46 = .ok (.invokevirtual 117, 3) := by decide +kernel
theorem dX4_stretch_49 : decode cX4_stretch 49 = .ok (.ifCond .ne 9, 3) := by decide +kernel
theorem dX4_stretch_52 : decode cX4_stretch 52 = .ok (.aload_n 0, 1) := by decide +kernel
theorem dX4_stretch_53 : decode cX4_stretch 53 = .ok (.iconst 3, 1) := by decide +kernel
theorem dX4_stretch_54 : decode cX4_stretch 54 = .ok (.invokevirtual 79, 3) := by decide +kernel
theorem dX4_stretch_57 : decode cX4_stretch 57 = .ok (.ireturn, 1) := by decide +kernel
theorem dX4_stretch_58 : decode cX4_stretch 58 = .ok (.aload_n 0, 1) := by decide +kernel
theorem dX4_stretch_59 : decode cX4_stretch 59 = .ok (.invokevirtual 91, 3) := by decide +kernel
theorem dX4_stretch_62 : decode cX4_stretch 62 = .ok (.iconst 0, 1) := by decide +kernel
theorem dX4_stretch_63 : decode cX4_stretch 63 = .ok (.istore 5, 2) := by decide +kernel
theorem dX4_stretch_65 : decode cX4_stretch 65 = .ok (.iconst 0, 1) := by decide +kernel
theorem dX4_stretch_66 : decode cX4_stretch 66 = .ok (.istore 6, 2) := by decide +kernel
theorem dX4_stretch_68 : decode cX4_stretch 68 = .ok (.iload 6, 2) := by decide +kernel
theorem dX4_stretch_70 : decode cX4_stretch 70 = .ok (.aload_n 0, 1) := by decide +kernel
theorem dX4_stretch_71 : decode cX4_stretch 71 = .ok (.iload_n 1, 1) := by decide +kernel
theorem dX4_stretch_72 : decode cX4_stretch 72 = .ok (.invokevirtual 50, 3) := by decide +kernel
theorem dX4_stretch_75 : decode cX4_stretch 75 = .ok (.if_icmp .ge 62, 3) := by decide +kernel
theorem dX4_stretch_78 : decode cX4_stretch 78 = .ok (.aload_n 0, 1) := by decide +kernel
theorem dX4_stretch_79 : decode cX4_stretch 79 = .ok (.iload_n 1, 1) := by decide +kernel
theorem dX4_stretch_80 : decode cX4_stretch 80 = .ok (.iload 6, 2) := by decide +kernel
theorem dX4_stretch_82 : decode cX4_stretch 82 = .ok (.iconst 0, 1) := by decide +kernel
theorem dX4_stretch_83 : decode cX4_stretch 83 = .ok (.invokevirtual 57, 3) := by decide +kernel
theorem dX4_stretch_86 : decode cX4_stretch 86 = .ok (.iload_n 2, 1) := by decide +kernel
theorem dX4_stretch_87 : decode cX4_stretch 87 = .ok (.iload_n 3, 1) := by decide +kernel
theorem dX4_stretch_88 : decode cX4_stretch 88 = .ok (.iload 4, 2) := by decide +kernel
theorem dX4_stretch_90 : decode cX4_stretch 90 = .ok (.invokestatic 111, 3) := by decide +kernel
theorem dX4_stretch_93 : decode cX4_stretch 93 = .ok (.istore 7, 2) := by decide +kernel
theorem dX4_stretch_95 : decode cX4_stretch 95 = .ok (.iload 5, 2) := by decide +kernel
theorem dX4_stretch_97 : decode cX4_stretch 97 = .ok (.iload 7, 2) := by decide +kernel
theorem dX4_stretch_99 : decode cX4_stretch 99 = .ok (.aload_n 0, 1) := by decide +kernel
theorem dX4_stretch_100 : decode cX4_stretch 100 = .ok (.iload_n 1, 1) := by decide +kernel
theorem dX4_stretch_101 : decode cX4_stretch 101 = .ok (.iload 6, 2) := by decide +kernel
theorem dX4_stretch_103 : decode cX4_stretch 103 = .ok (.iconst 0, 1) := by decide +kernel
theorem dX4_stretch_104 : decode cX4_stretch 104 = .ok (.invokevirtual 57, 3) := by decide +kernel
theorem dX4_stretch_107 : decode cX4_stretch 107 = .ok (.if_icmp .ne 7, 3) := by decide +kernel
theorem dX4_stretch_110 : decode cX4_stretch 110 = .ok (.iconst 0, 1) := by decide +kernel
theorem dX4_stretch_111 : decode cX4_stretch 111 = .ok (.goto 4, 3) := by decide +kernel
theorem dX4_stretch_114 : decode cX4_stretch 114 = .ok (.iconst 1, 1) := by decide +kernel
theorem dX4_stretch_115 : decode cX4_stretch 115 = .ok (.iadd, 1) := by decide +kernel
theorem dX4_stretch_116 : decode cX4_stretch 116 = .ok (.istore 5, 2) := by decide +kernel
theorem dX4_stretch_118 : decode cX4_stretch 118 = .ok (.aload_n 0, 1) := by decide +kernel
theorem dX4_stretch_119 : decode cX4_stretch 119 = .ok (.getfield 7, 3) := by decide +kernel
theorem dX4_stretch_122 : decode cX4_stretch 122 = .ok (.iload_n 1, 1) := by decide +kernel
theorem dX4_stretch_123 : decode cX4_stretch 123 = .ok (.iload 6, 2) := by decide +kernel
theorem dX4_stretch_125 : decode cX4_stretch 125 = .ok (.invokestatic 53, 3) := by decide +kernel
theorem dX4_stretch_128 : decode cX4_stretch 128 = .ok (.iload 7, 2) := by decide +kernel
theorem dX4_stretch_130 : decode cX4_stretch 130 = .ok (.iastore, 1) := by decide +kernel
theorem dX4_stretch_131 : decode cX4_stretch 131 = .ok (.iinc 6 1, 3) := by decide +kernel
theorem dX4_stretch_134 : decode cX4_stretch 134 = .ok (.goto (-66), 3) := by decide +kernel
theorem dX4_stretch_137 : decode cX4_stretch 137 = .ok (.aload_n 0, 1) := by decide +kernel
theorem dX4_stretch_138 : decode cX4_stretch 138 = .ok (.iload 5, 2) := by decide +kernel
theorem dX4_stretch_140 : decode cX4_stretch 140 = .ok (.invokevirtual 98, 3) := by decide +kernel
theorem dX4_stretch_143 : decode cX4_stretch 143 = .ok (.ireturn, 1) := by decide +kernel
set_option maxRecDepth 20000 in
theorem ggX4_copy_X4_isCurve : GoodIn wsX4_copy wsX4_isCurve := goodIn_r _ [5, 6, 7, 4, 8] (by decide +kernel) (by decide +kernel)
set_option maxRecDepth 20000 in
theorem gX4_copy_X4_isCurve : GoodIn wsX4_copy (va_wsS RX4 46 yX4_isCurve wsX4_isCurve) := goodIn_app (goodIn_of _ (by decide +kernel)) ggX4_copy_X4_isCurve
set_option maxRecDepth 20000 in
theorem ggX4_copy_X4_fails : GoodIn wsX4_copy wsX4_fails := goodIn_r _ [12, 13, 47, 48, 49, 50, 51, 52, 53, 54, 55, 56, 57] (by decide +kernel) (by decide +kernel)
set_option maxRecDepth 20000 in
theorem gX4_copy_X4_fails : GoodIn wsX4_copy (wsV RX4 79 RX4 yX4_fails wsX4_fails) := goodIn_app (goodIn_of _ (by decide +kernel)) ggX4_copy_X4_fails
set_option maxRecDepth 20000 in
theorem ggX4_copy_X4_isValue : GoodIn wsX4_copy wsX4_isValue := goodIn_r _ [16, 6, 7, 4, 8] (by decide +kernel) (by decide +kernel)
set_option maxRecDepth 20000 in
theorem gX4_copy_X4_isValue : GoodIn wsX4_copy (va_wsS RX4 85 yX4_isValue wsX4_isValue) := goodIn_app (goodIn_of _ (by decide +kernel)) ggX4_copy_X4_isValue
set_option maxRecDepth 20000 in
theorem ggX4_copy_X4_hasLock : GoodIn wsX4_copy wsX4_hasLock := goodIn_r _ [20, 21, 22, 23, 4, 24, 1, 25, 26, 27, 28, 29, 30, 31, 47, 48, 49, 50, 51, 52, 53, 54, 55, 56, 57] (by decide +kernel) (by decide +kernel)
set_option maxRecDepth 20000 in
theorem gX4_copy_X4_hasLock : GoodIn wsX4_copy (wsV RX4 121 RX4 yX4_hasLock wsX4_hasLock) := goodIn_app (goodIn_of _ (by decide +kernel)) ggX4_copy_X4_hasLock
set_option maxRecDepth 20000 in
theorem ggX4_copy_X4_many : GoodIn wsX4_copy wsX4_many := goodIn_r _ [24, 1, 47, 48, 49, 50, 51, 52, 53, 54, 55, 56, 57] (by decide +kernel) (by decide +kernel)
set_option maxRecDepth 20000 in
theorem gX4_copy_X4_many : GoodIn wsX4_copy (wsV RX4 50 RX4 yX4_many wsX4_many) := goodIn_app (goodIn_of _ (by decide +kernel)) ggX4_copy_X4_many
set_option maxRecDepth 20000 in
theorem ggX4_copy_X4_of : GoodIn wsX4_copy wsX4_of := goodIn_r _ [28, 1, 29, 30, 4, 31, 47, 48, 49, 50, 51, 52, 53, 54, 55, 56, 57] (by decide +kernel) (by decide +kernel)
set_option maxRecDepth 20000 in
theorem gX4_copy_X4_of : GoodIn wsX4_copy (wsV RX4 57 RX4 yX4_of wsX4_of) := goodIn_app (goodIn_of _ (by decide +kernel)) ggX4_copy_X4_of
set_option maxRecDepth 20000 in
theorem ggX4_copy_X4_hold : GoodIn wsX4_copy wsX4_hold := goodIn_r _ [35, 36, 1, 47, 48, 49, 50, 51, 52, 53, 54, 55, 56, 57] (by decide +kernel) (by decide +kernel)
set_option maxRecDepth 20000 in
theorem gX4_copy_X4_hold : GoodIn wsX4_copy (wsV RX4 91 RX4 yX4_hold wsX4_hold) := goodIn_app (goodIn_of _ (by decide +kernel)) ggX4_copy_X4_hold
set_option maxRecDepth 20000 in
theorem ggX4_copy_X4_spot : GoodIn wsX4_copy wsX4_spot := goodIn_r _ [31] (by decide +kernel) (by decide +kernel)
set_option maxRecDepth 20000 in
theorem gX4_copy_X4_spot : GoodIn wsX4_copy (va_wsS RX4 53 yX4_spot wsX4_spot) := goodIn_app (goodIn_of _ (by decide +kernel)) ggX4_copy_X4_spot
set_option maxRecDepth 20000 in
theorem ggX4_copy_X4_ends : GoodIn wsX4_copy wsX4_ends := goodIn_r _ [40, 41, 42, 36, 43, 44, 45, 4, 46, 13, 47, 48, 49, 50, 51, 52, 53, 54, 55, 56, 57] (by decide +kernel) (by decide +kernel)
set_option maxRecDepth 20000 in
theorem gX4_copy_X4_ends : GoodIn wsX4_copy (wsV RX4 98 RX4 yX4_ends wsX4_ends) := goodIn_app (goodIn_of _ (by decide +kernel)) ggX4_copy_X4_ends
theorem dX4_copy_0 : decode cX4_copy 0 = .ok (.iload_n 1, 1) := by decide +kernel
theorem dX4_copy_1 : decode cX4_copy 1 = .ok (.invokestatic 46, 3) := by decide +kernel
theorem dX4_copy_4 : decode cX4_copy 4 = .ok (.ifCond .eq 10, 3) := by decide +kernel
theorem dX4_copy_7 : decode cX4_copy 7 = .ok (.iload_n 2, 1) := by decide +kernel
theorem dX4_copy_8 : decode cX4_copy 8 = .ok (.invokestatic 46, 3) := by decide +kernel
theorem dX4_copy_11 : decode cX4_copy 11 = .ok (.ifCond .ne 9, 3) := by decide +kernel
theorem dX4_copy_14 : decode cX4_copy 14 = .ok (.aload_n 0, 1) := by decide +kernel
theorem dX4_copy_15 : decode cX4_copy 15 = .ok (.iconst 1, 1) := by decide +kernel
theorem dX4_copy_16 : decode cX4_copy 16 = .ok (.invokevirtual 79, 3) := by decide +kernel
theorem dX4_copy_19 : decode cX4_copy 19 = .ok (.ireturn, 1) := by decide +kernel
theorem dX4_copy_20 : decode cX4_copy 20 = .ok (.iload_n 3, 1) := by decide +kernel
theorem dX4_copy_21 : decode cX4_copy 21 = .ok (.invokestatic 85, 3) := by decide +kernel
theorem dX4_copy_24 : decode cX4_copy 24 = .ok (.ifCond .ne 9, 3) := by decide +kernel
theorem dX4_copy_27 : decode cX4_copy 27 = .ok (.aload_n 0, 1) := by decide +kernel
theorem dX4_copy_28 : decode cX4_copy 28 = .ok (.iconst 2, 1) := by decide +kernel
theorem dX4_copy_29 : decode cX4_copy 29 = .ok (.invokevirtual 79, 3) := by decide +kernel
theorem dX4_copy_32 : decode cX4_copy 32 = .ok (.ireturn, 1) := by decide +kernel
theorem dX4_copy_33 : decode cX4_copy 33 = .ok (.aload_n 0, 1) := by decide +kernel
theorem dX4_copy_34 : decode cX4_copy 34 = .ok (.iload_n 1, 1) := by decide +kernel
theorem dX4_copy_35 : decode cX4_copy 35 = .ok (.invokevirtual 121, 3) := by decide +kernel
theorem dX4_copy_38 : decode cX4_copy 38 = .ok (.ifCond .ne 7, 3) := by decide +kernel
theorem dX4_copy_41 : decode cX4_copy 41 = .ok (.iconst 1, 1) := by decide +kernel
theorem dX4_copy_42 : decode cX4_copy 42 = .ok (.goto 4, 3) := by decide +kernel
theorem dX4_copy_45 : decode cX4_copy 45 = .ok (.iconst 0, 1) := by decide +kernel
theorem dX4_copy_46 : decode cX4_copy 46 = .ok (.istore 4, 2) := by decide +kernel
theorem dX4_copy_48 : decode cX4_copy 48 = .ok (.iconst 0, 1) := by decide +kernel
theorem dX4_copy_49 : decode cX4_copy 49 = .ok (.istore 5, 2) := by decide +kernel
theorem dX4_copy_51 : decode cX4_copy 51 = .ok (.iload 5, 2) := by decide +kernel
theorem dX4_copy_53 : decode cX4_copy 53 = .ok (.aload_n 0, 1) := by decide +kernel
theorem dX4_copy_54 : decode cX4_copy 54 = .ok (.iload_n 2, 1) := by decide +kernel
theorem dX4_copy_55 : decode cX4_copy 55 = .ok (.invokevirtual 50, 3) := by decide +kernel
theorem dX4_copy_58 : decode cX4_copy 58 = .ok (.if_icmp .ge 37, 3) := by decide +kernel
theorem dX4_copy_61 : decode cX4_copy 61 = .ok (.iload 4, 2) := by decide +kernel
theorem dX4_copy_63 : decode cX4_copy 63 = .ok (.ifCond .eq 23, 3) := by decide +kernel
theorem dX4_copy_66 : decode cX4_copy 66 = .ok (.aload_n 0, 1) := by decide +kernel
theorem dX4_copy_67 : decode cX4_copy 67 = .ok (.iload_n 2, 1) := by decide +kernel
theorem dX4_copy_68 : decode cX4_copy 68 = .ok (.iload 5, 2) := by decide +kernel
theorem dX4_copy_70 : decode cX4_copy 70 = .ok (.iconst 1, 1) := by decide +kernel
theorem dX4_copy_71 : decode cX4_copy 71 = .ok (.invokevirtual 57, 3) := by decide +kernel
theorem dX4_copy_74 : decode cX4_copy 74 = .ok (.iload_n 3, 1) := by decide +kernel
theorem dX4_copy_75 : decode cX4_copy 75 = .ok (.iadd, 1) := by decide +kernel
theorem dX4_copy_76 : decode cX4_copy 76 = .ok (.invokestatic 85, 3) := by decide +kernel
theorem dX4_copy_79 : decode cX4_copy 79 = .ok (.ifCond .eq 7, 3) := by decide +kernel
theorem dX4_copy_82 : decode cX4_copy 82 = .ok (.iconst 1, 1) := by decide +kernel
theorem dX4_copy_83 : decode cX4_copy 83 = .ok (.goto 4, 3) := by decide +kernel
theorem dX4_copy_86 : decode cX4_copy 86 = .ok (.iconst 0, 1) := by decide +kernel
theorem dX4_copy_87 : decode cX4_copy 87 = .ok (.istore 4, 2) := by decide +kernel
theorem dX4_copy_89 : decode cX4_copy 89 = .ok (.iinc 5 1, 3) := by decide +kernel
theorem dX4_copy_92 : decode cX4_copy 92 = .ok (.goto (-41), 3) := by decide +kernel
theorem dX4_copy_95 : decode cX4_copy 95 = .ok (.iload 4, 2) := by decide +kernel
theorem dX4_copy_97 : decode cX4_copy 97 = .ok (.ifCond .ne 9, 3) := by decide +kernel
theorem dX4_copy_100 : decode cX4_copy 100 = .ok (.aload_n 0, 1) := by decide +kernel
theorem dX4_copy_101 : decode cX4_copy 101 = .ok (.iconst 3, 1) := by decide +kernel
theorem dX4_copy_102 : decode cX4_copy 102 = .ok (.invokevirtual 79, 3) := by decide +kernel
theorem dX4_copy_105 : decode cX4_copy 105 = .ok (.ireturn, 1) := by decide +kernel
theorem dX4_copy_106 : decode cX4_copy 106 = .ok (.aload_n 0, 1) := by decide +kernel
theorem dX4_copy_107 : decode cX4_copy 107 = .ok (.invokevirtual 91, 3) := by decide +kernel
theorem dX4_copy_110 : decode cX4_copy 110 = .ok (.iconst 0, 1) := by decide +kernel
theorem dX4_copy_111 : decode cX4_copy 111 = .ok (.istore 5, 2) := by decide +kernel
theorem dX4_copy_113 : decode cX4_copy 113 = .ok (.iload 5, 2) := by decide +kernel
theorem dX4_copy_115 : decode cX4_copy 115 = .ok (.bipush 97, 2) := by decide +kernel
theorem dX4_copy_117 : decode cX4_copy 117 = .ok (.if_icmp .ge 33, 3) := by decide +kernel
theorem dX4_copy_120 : decode cX4_copy 120 = .ok (.aload_n 0, 1) := by decide +kernel
theorem dX4_copy_121 : decode cX4_copy 121 = .ok (.getfield 7, 3) := by decide +kernel
theorem dX4_copy_124 : decode cX4_copy 124 = .ok (.bipush 97, 2) := by decide +kernel
theorem dX4_copy_126 : decode cX4_copy 126 = .ok (.iload_n 1, 1) := by decide +kernel
theorem dX4_copy_127 : decode cX4_copy 127 = .ok (.imul, 1) := by decide +kernel
theorem dX4_copy_128 : decode cX4_copy 128 = .ok (.iload 5, 2) := by decide +kernel
theorem dX4_copy_130 : decode cX4_copy 130 = .ok (.iadd, 1) := by decide +kernel
theorem dX4_copy_131 : decode cX4_copy 131 = .ok (.aload_n 0, 1) := by decide +kernel
theorem dX4_copy_132 : decode cX4_copy 132 = .ok (.getfield 7, 3) := by decide +kernel
theorem dX4_copy_135 : decode cX4_copy 135 = .ok (.bipush 97, 2) := by decide +kernel
theorem dX4_copy_137 : decode cX4_copy 137 = .ok (.iload_n 2, 1) := by decide +kernel
theorem dX4_copy_138 : decode cX4_copy 138 = .ok (.imul, 1) := by decide +kernel
theorem dX4_copy_139 : decode cX4_copy 139 = .ok (.iload 5, 2) := by decide +kernel
theorem dX4_copy_141 : decode cX4_copy 141 = .ok (.iadd, 1) := by decide +kernel
theorem dX4_copy_142 : decode cX4_copy 142 = .ok (.iaload, 1) := by decide +kernel
theorem dX4_copy_143 : decode cX4_copy 143 = .ok (.iastore, 1) := by decide +kernel
theorem dX4_copy_144 : decode cX4_copy 144 = .ok (.iinc 5 1, 3) := by decide +kernel
theorem dX4_copy_147 : decode cX4_copy 147 = .ok (.goto (-34), 3) := by decide +kernel
theorem dX4_copy_150 : decode cX4_copy 150 = .ok (.iconst 0, 1) := by decide +kernel
theorem dX4_copy_151 : decode cX4_copy 151 = .ok (.istore 5, 2) := by decide +kernel
theorem dX4_copy_153 : decode cX4_copy 153 = .ok (.iload 5, 2) := by decide +kernel
theorem dX4_copy_155 : decode cX4_copy 155 = .ok (.aload_n 0, 1) := by decide +kernel
theorem dX4_copy_156 : decode cX4_copy 156 = .ok (.iload_n 1, 1) := by decide +kernel
theorem dX4_copy_157 : decode cX4_copy 157 = .ok (.invokevirtual 50, 3) := by decide +kernel
theorem dX4_copy_160 : decode cX4_copy 160 = .ok (.if_icmp .ge 26, 3) := by decide +kernel
theorem dX4_copy_163 : decode cX4_copy 163 = .ok (.aload_n 0, 1) := by decide +kernel
theorem dX4_copy_164 : decode cX4_copy 164 = .ok (.getfield 7, 3) := by decide +kernel
theorem dX4_copy_167 : decode cX4_copy 167 = .ok (.iload_n 1, 1) := by decide +kernel
theorem dX4_copy_168 : decode cX4_copy 168 = .ok (.iload 5, 2) := by decide +kernel
theorem dX4_copy_170 : decode cX4_copy 170 = .ok (.invokestatic 53, 3) := by decide +kernel
theorem dX4_copy_173 : decode cX4_copy 173 = .ok (.iconst 1, 1) := by decide +kernel
theorem dX4_copy_174 : decode cX4_copy 174 = .ok (.iadd, 1) := by decide +kernel
theorem dX4_copy_175 : decode cX4_copy 175 = .ok (.dup2, 1) := by decide +kernel
theorem dX4_copy_176 : decode cX4_copy 176 = .ok (.iaload, 1) := by decide +kernel
theorem dX4_copy_177 : decode cX4_copy 177 = .ok (.iload_n 3, 1) := by decide +kernel
theorem dX4_copy_178 : decode cX4_copy 178 = .ok (.iadd, 1) := by decide +kernel
theorem dX4_copy_179 : decode cX4_copy 179 = .ok (.iastore, 1) := by decide +kernel
theorem dX4_copy_180 : decode cX4_copy 180 = .ok (.iinc 5 1, 3) := by decide +kernel
theorem dX4_copy_183 : decode cX4_copy 183 = .ok (.goto (-30), 3) := by decide +kernel
theorem dX4_copy_186 : decode cX4_copy 186 = .ok (.aload_n 0, 1) := by decide +kernel
theorem dX4_copy_187 : decode cX4_copy 187 = .ok (.aload_n 0, 1) := by decide +kernel
theorem dX4_copy_188 : decode cX4_copy 188 = .ok (.iload_n 1, 1) := by decide +kernel
theorem dX4_copy_189 : decode cX4_copy 189 = .ok (.invokevirtual 50, 3) := by decide +kernel
theorem dX4_copy_192 : decode cX4_copy 192 = .ok (.invokevirtual 98, 3) := by decide +kernel
theorem dX4_copy_195 : decode cX4_copy 195 = .ok (.ireturn, 1) := by decide +kernel
set_option maxRecDepth 20000 in
theorem ggX4_errorOf_X4_of : GoodIn wsX4_errorOf wsX4_of := goodIn_r _ [8, 2, 9, 10, 7, 11, 37, 38, 39, 40, 41, 42, 43, 44, 45, 46, 47] (by decide +kernel) (by decide +kernel)
set_option maxRecDepth 20000 in
theorem gX4_errorOf_X4_of : GoodIn wsX4_errorOf (wsV RX4 57 RX4 yX4_of wsX4_of) := goodIn_app (goodIn_of _ (by decide +kernel)) ggX4_errorOf_X4_of
set_option maxRecDepth 20000 in
theorem ggX4_errorOf_X4_many : GoodIn wsX4_errorOf wsX4_many := goodIn_r _ [15, 2, 37, 38, 39, 40, 41, 42, 43, 44, 45, 46, 47] (by decide +kernel) (by decide +kernel)
set_option maxRecDepth 20000 in
theorem gX4_errorOf_X4_many : GoodIn wsX4_errorOf (wsV RX4 50 RX4 yX4_many wsX4_many) := goodIn_app (goodIn_of _ (by decide +kernel)) ggX4_errorOf_X4_many
set_option maxRecDepth 20000 in
theorem ggX4_errorOf_X4_goes : GoodIn wsX4_errorOf wsX4_goes := goodIn_r _ [19, 2, 9, 10, 7, 11, 12, 13, 14, 15, 37, 38, 39, 40, 41, 42, 43, 44, 45, 46, 47] (by decide +kernel) (by decide +kernel)
set_option maxRecDepth 20000 in
theorem gX4_errorOf_X4_goes : GoodIn wsX4_errorOf (wsV RX4 105 RX4 yX4_goes wsX4_goes) := goodIn_app (goodIn_of _ (by decide +kernel)) ggX4_errorOf_X4_goes
set_option maxRecDepth 20000 in
theorem ggX4_errorOf_X4_valueAt : GoodIn wsX4_errorOf wsX4_valueAt := goodIn_r _ [23, 24, 25, 26, 27, 28, 29, 12, 13, 14, 7, 15, 2, 4, 5, 6, 8, 9, 10, 11, 30, 31, 32, 33, 37, 38, 39, 40, 41, 42, 43, 44, 45, 46, 47] (by decide +kernel) (by decide +kernel)
set_option maxRecDepth 20000 in
theorem gX4_errorOf_X4_valueAt : GoodIn wsX4_errorOf (wsV RX4 76 RX4 yX4_valueAt wsX4_valueAt) := goodIn_app (goodIn_of _ (by decide +kernel)) ggX4_errorOf_X4_valueAt
set_option maxRecDepth 20000 in
theorem ggX4_errorOf_X4_apart : GoodIn wsX4_errorOf wsX4_apart := goodIn_r _ [36] (by decide +kernel) (by decide +kernel)
set_option maxRecDepth 20000 in
theorem gX4_errorOf_X4_apart : GoodIn wsX4_errorOf (va_wsS RX4 124 yX4_apart wsX4_apart) := goodIn_app (goodIn_of _ (by decide +kernel)) ggX4_errorOf_X4_apart
theorem dX4_errorOf_0 : decode cX4_errorOf 0 = .ok (.aload_n 0, 1) := by decide +kernel
theorem dX4_errorOf_1 : decode cX4_errorOf 1 = .ok (.iload_n 1, 1) := by decide +kernel
theorem dX4_errorOf_2 : decode cX4_errorOf 2 = .ok (.iload_n 2, 1) := by decide +kernel
theorem dX4_errorOf_3 : decode cX4_errorOf 3 = .ok (.iconst 5, 1) := by decide +kernel
theorem dX4_errorOf_4 : decode cX4_errorOf 4 = .ok (.invokevirtual 57, 3) := by decide +kernel
theorem dX4_errorOf_7 : decode cX4_errorOf 7 = .ok (.iconst 1, 1) := by decide +kernel
theorem dX4_errorOf_8 : decode cX4_errorOf 8 = .ok (.if_icmp .eq 18, 3) := by decide +kernel
theorem dX4_errorOf_11 : decode cX4_errorOf 11 = .ok (.iload_n 2, 1) := by decide +kernel
theorem dX4_errorOf_12 : decode cX4_errorOf 12 = .ok (.ifCond .eq 14, 3) := by decide +kernel
theorem dX4_errorOf_15 : decode cX4_errorOf 15 = .ok (.iload_n 2, 1) := by decide +kernel
theorem dX4_errorOf_16 : decode cX4_errorOf 16 = .ok (.aload_n 0, 1) := by decide +kernel
theorem dX4_errorOf_17 : decode cX4_errorOf 17 = .ok (.iload_n 1, 1) := by decide +kernel
theorem dX4_errorOf_18 : decode cX4_errorOf 18 = .ok (.invokevirtual 50, 3) := by decide +kernel
theorem dX4_errorOf_21 : decode cX4_errorOf 21 = .ok (.iconst 1, 1) := by decide +kernel
theorem dX4_errorOf_22 : decode cX4_errorOf 22 = .ok (.isub, 1) := by decide +kernel
theorem dX4_errorOf_23 : decode cX4_errorOf 23 = .ok (.if_icmp .ne 5, 3) := by decide +kernel
theorem dX4_errorOf_26 : decode cX4_errorOf 26 = .ok (.iconst (-1), 1) := by decide +kernel
theorem dX4_errorOf_27 : decode cX4_errorOf 27 = .ok (.ireturn, 1) := by decide +kernel
theorem dX4_errorOf_28 : decode cX4_errorOf 28 = .ok (.iconst 0, 1) := by decide +kernel
theorem dX4_errorOf_29 : decode cX4_errorOf 29 = .ok (.istore_n 3, 1) := by decide +kernel
theorem dX4_errorOf_30 : decode cX4_errorOf 30 = .ok (.iload_n 3, 1) := by decide +kernel
theorem dX4_errorOf_31 : decode cX4_errorOf 31 = .ok (.bipush 97, 2) := by decide +kernel
theorem dX4_errorOf_33 : decode cX4_errorOf 33 = .ok (.if_icmp .ge 26, 3) := by decide +kernel
theorem dX4_errorOf_36 : decode cX4_errorOf 36 = .ok (.aload_n 0, 1) := by decide +kernel
theorem dX4_errorOf_37 : decode cX4_errorOf 37 = .ok (.getfield 19, 3) := by decide +kernel
theorem dX4_errorOf_40 : decode cX4_errorOf 40 = .ok (.iload_n 3, 1) := by decide +kernel
theorem dX4_errorOf_41 : decode cX4_errorOf 41 = .ok (.aload_n 0, 1) := by decide +kernel
theorem dX4_errorOf_42 : decode cX4_errorOf 42 = .ok (.getfield 7, 3) := by decide +kernel
theorem dX4_errorOf_45 : decode cX4_errorOf 45 = .ok (.bipush 97, 2) := by decide +kernel
theorem dX4_errorOf_47 : decode cX4_errorOf 47 = .ok (.iload_n 1, 1) := by decide +kernel
theorem dX4_errorOf_48 : decode cX4_errorOf 48 = .ok (.imul, 1) := by decide +kernel
theorem dX4_errorOf_49 : decode cX4_errorOf 49 = .ok (.iload_n 3, 1) := by decide +kernel
theorem dX4_errorOf_50 : decode cX4_errorOf 50 = .ok (.iadd, 1) := by decide +kernel
theorem dX4_errorOf_51 : decode cX4_errorOf 51 = .ok (.iaload, 1) := by decide +kernel
theorem dX4_errorOf_52 : decode cX4_errorOf 52 = .ok (.iastore, 1) := by decide +kernel
theorem dX4_errorOf_53 : decode cX4_errorOf 53 = .ok (.iinc 3 1, 3) := by decide +kernel
theorem dX4_errorOf_56 : decode cX4_errorOf 56 = .ok (.goto (-26), 3) := by decide +kernel
theorem dX4_errorOf_59 : decode cX4_errorOf 59 = .ok (.aload_n 0, 1) := by decide +kernel
theorem dX4_errorOf_60 : decode cX4_errorOf 60 = .ok (.iload_n 1, 1) := by decide +kernel
theorem dX4_errorOf_61 : decode cX4_errorOf 61 = .ok (.iload_n 2, 1) := by decide +kernel
theorem dX4_errorOf_62 : decode cX4_errorOf 62 = .ok (.invokevirtual 105, 3) := by decide +kernel
theorem dX4_errorOf_65 : decode cX4_errorOf 65 = .ok (.iconst 0, 1) := by decide +kernel
theorem dX4_errorOf_66 : decode cX4_errorOf 66 = .ok (.istore_n 3, 1) := by decide +kernel
theorem dX4_errorOf_67 : decode cX4_errorOf 67 = .ok (.iconst 0, 1) := by decide +kernel
theorem dX4_errorOf_68 : decode cX4_errorOf 68 = .ok (.istore 4, 2) := by decide +kernel
theorem dX4_errorOf_70 : decode cX4_errorOf 70 = .ok (.iload 4, 2) := by decide +kernel
theorem dX4_errorOf_72 : decode cX4_errorOf 72 = .ok (.sipush 999, 3) := by decide +kernel
theorem dX4_errorOf_75 : decode cX4_errorOf 75 = .ok (.if_icmp .gt 41, 3) := by decide +kernel
theorem dX4_errorOf_78 : decode cX4_errorOf 78 = .ok (.aload_n 0, 1) := by decide +kernel
theorem dX4_errorOf_79 : decode cX4_errorOf 79 = .ok (.iload_n 1, 1) := by decide +kernel
theorem dX4_errorOf_80 : decode cX4_errorOf 80 = .ok (.iload 4, 2) := by decide +kernel
theorem dX4_errorOf_82 : decode cX4_errorOf 82 = .ok (.invokevirtual 76, 3) := by decide +kernel
theorem dX4_errorOf_85 : decode cX4_errorOf 85 = .ok (.aload_n 0, 1) := by decide +kernel
theorem dX4_errorOf_86 : decode cX4_errorOf 86 = .ok (.getfield 25, 3) := by decide +kernel
theorem dX4_errorOf_89 : decode cX4_errorOf 89 = .ok (.iload 4, 2) := by decide +kernel
theorem dX4_errorOf_91 : decode cX4_errorOf 91 = .ok (.iaload, 1) := by decide +kernel
theorem dX4_errorOf_92 : decode cX4_errorOf 92 = .ok (.invokestatic 124, 3) := by decide +kernel
theorem dX4_errorOf_95 : decode cX4_errorOf 95 = .ok (.istore 5, 2) := by decide +kernel
theorem dX4_errorOf_97 : decode cX4_errorOf 97 = .ok (.iload 5, 2) := by decide +kernel
theorem dX4_errorOf_99 : decode cX4_errorOf 99 = .ok (.iload_n 3, 1) := by decide +kernel
theorem dX4_errorOf_100 : decode cX4_errorOf 100 = .ok (.if_icmp .le 8, 3) := by decide +kernel
theorem dX4_errorOf_103 : decode cX4_errorOf 103 = .ok (.iload 5, 2) := by decide +kernel
theorem dX4_errorOf_105 : decode cX4_errorOf 105 = .ok (.goto 4, 3) := by decide +kernel
theorem dX4_errorOf_108 : decode cX4_errorOf 108 = .ok (.iload_n 3, 1) := by decide +kernel
theorem dX4_errorOf_109 : decode cX4_errorOf 109 = .ok (.istore_n 3, 1) := by decide +kernel
theorem dX4_errorOf_110 : decode cX4_errorOf 110 = .ok (.iinc 4 1, 3) := by decide +kernel
theorem dX4_errorOf_113 : decode cX4_errorOf 113 = .ok (.goto (-43), 3) := by decide +kernel
theorem dX4_errorOf_116 : decode cX4_errorOf 116 = .ok (.iconst 0, 1) := by decide +kernel
theorem dX4_errorOf_117 : decode cX4_errorOf 117 = .ok (.istore 4, 2) := by decide +kernel
theorem dX4_errorOf_119 : decode cX4_errorOf 119 = .ok (.iload 4, 2) := by decide +kernel
theorem dX4_errorOf_121 : decode cX4_errorOf 121 = .ok (.bipush 97, 2) := by decide +kernel
theorem dX4_errorOf_123 : decode cX4_errorOf 123 = .ok (.if_icmp .ge 28, 3) := by decide +kernel
theorem dX4_errorOf_126 : decode cX4_errorOf 126 = .ok (.aload_n 0, 1) := by decide +kernel
theorem dX4_errorOf_127 : decode cX4_errorOf 127 = .ok (.getfield 7, 3) := by decide +kernel
theorem dX4_errorOf_130 : decode cX4_errorOf 130 = .ok (.bipush 97, 2) := by decide +kernel
theorem dX4_errorOf_132 : decode cX4_errorOf 132 = .ok (.iload_n 1, 1) := by decide +kernel
theorem dX4_errorOf_133 : decode cX4_errorOf 133 = .ok (.imul, 1) := by decide +kernel
theorem dX4_errorOf_134 : decode cX4_errorOf 134 = .ok (.iload 4, 2) := by decide +kernel
theorem dX4_errorOf_136 : decode cX4_errorOf 136 = .ok (.iadd, 1) := by decide +kernel
theorem dX4_errorOf_137 : decode cX4_errorOf 137 = .ok (.aload_n 0, 1) := by decide +kernel
theorem dX4_errorOf_138 : decode cX4_errorOf 138 = .ok (.getfield 19, 3) := by decide +kernel
theorem dX4_errorOf_141 : decode cX4_errorOf 141 = .ok (.iload 4, 2) := by decide +kernel
theorem dX4_errorOf_143 : decode cX4_errorOf 143 = .ok (.iaload, 1) := by decide +kernel
theorem dX4_errorOf_144 : decode cX4_errorOf 144 = .ok (.iastore, 1) := by decide +kernel
theorem dX4_errorOf_145 : decode cX4_errorOf 145 = .ok (.iinc 4 1, 3) := by decide +kernel
theorem dX4_errorOf_148 : decode cX4_errorOf 148 = .ok (.goto (-29), 3) := by decide +kernel
theorem dX4_errorOf_151 : decode cX4_errorOf 151 = .ok (.iload_n 3, 1) := by decide +kernel
theorem dX4_errorOf_152 : decode cX4_errorOf 152 = .ok (.ireturn, 1) := by decide +kernel
theorem dX4_apart_0 : decode cX4_apart 0 = .ok (.iload_n 0, 1) := by decide +kernel
theorem dX4_apart_1 : decode cX4_apart 1 = .ok (.iload_n 1, 1) := by decide +kernel
theorem dX4_apart_2 : decode cX4_apart 2 = .ok (.if_icmp .ge 9, 3) := by decide +kernel
theorem dX4_apart_5 : decode cX4_apart 5 = .ok (.iload_n 1, 1) := by decide +kernel
theorem dX4_apart_6 : decode cX4_apart 6 = .ok (.iload_n 0, 1) := by decide +kernel
theorem dX4_apart_7 : decode cX4_apart 7 = .ok (.isub, 1) := by decide +kernel
theorem dX4_apart_8 : decode cX4_apart 8 = .ok (.goto 6, 3) := by decide +kernel
theorem dX4_apart_11 : decode cX4_apart 11 = .ok (.iload_n 0, 1) := by decide +kernel
theorem dX4_apart_12 : decode cX4_apart 12 = .ok (.iload_n 1, 1) := by decide +kernel
theorem dX4_apart_13 : decode cX4_apart 13 = .ok (.isub, 1) := by decide +kernel
theorem dX4_apart_14 : decode cX4_apart 14 = .ok (.ireturn, 1) := by decide +kernel
set_option maxRecDepth 20000 in
theorem ggX4_leftOut_X4_bakes : GoodIn wsX4_leftOut wsX4_bakes := goodIn_r _ [5, 6, 7, 8, 9, 4, 10, 11, 12, 13, 14, 15, 16, 17, 18, 19, 20, 21, 22, 23, 24, 25, 26, 27, 28, 29, 30, 31, 32, 45, 46, 47, 48, 49, 50, 51, 52, 53, 54, 55] (by decide +kernel) (by decide +kernel)
set_option maxRecDepth 20000 in
theorem gX4_leftOut_X4_bakes : GoodIn wsX4_leftOut (wsV RX4 127 RX4 yX4_bakes wsX4_bakes) := goodIn_app (goodIn_of _ (by decide +kernel)) ggX4_leftOut_X4_bakes
set_option maxRecDepth 20000 in
theorem ggX4_leftOut_X4_many : GoodIn wsX4_leftOut wsX4_many := goodIn_r _ [20, 21, 45, 46, 47, 48, 49, 50, 51, 52, 53, 54, 55] (by decide +kernel) (by decide +kernel)
set_option maxRecDepth 20000 in
theorem gX4_leftOut_X4_many : GoodIn wsX4_leftOut (wsV RX4 50 RX4 yX4_many wsX4_many) := goodIn_app (goodIn_of _ (by decide +kernel)) ggX4_leftOut_X4_many
set_option maxRecDepth 20000 in
theorem ggX4_leftOut_X4_errorOf : GoodIn wsX4_leftOut wsX4_errorOf := goodIn_r _ [36, 37, 21, 6, 22, 23, 24, 4, 25, 26, 27, 28, 17, 18, 19, 20, 38, 39, 40, 41, 7, 8, 9, 10, 11, 12, 13, 14, 15, 16, 29, 30, 31, 32, 42, 43, 44, 45, 46, 47, 48, 49, 50, 51, 52, 53, 54, 55] (by decide +kernel) (by decide +kernel)
set_option maxRecDepth 20000 in
theorem gX4_leftOut_X4_errorOf : GoodIn wsX4_leftOut (wsV RX4 131 RX4 yX4_errorOf wsX4_errorOf) := goodIn_app (goodIn_of _ (by decide +kernel)) ggX4_leftOut_X4_errorOf
theorem dX4_leftOut_0 : decode cX4_leftOut 0 = .ok (.aload_n 0, 1) := by decide +kernel
theorem dX4_leftOut_1 : decode cX4_leftOut 1 = .ok (.iload_n 1, 1) := by decide +kernel
theorem dX4_leftOut_2 : decode cX4_leftOut 2 = .ok (.invokevirtual 127, 3) := by decide +kernel
theorem dX4_leftOut_5 : decode cX4_leftOut 5 = .ok (.iconst (-1), 1) := by decide +kernel
theorem dX4_leftOut_6 : decode cX4_leftOut 6 = .ok (.istore_n 3, 1) := by decide +kernel
theorem dX4_leftOut_7 : decode cX4_leftOut 7 = .ok (.iconst 0, 1) := by decide +kernel
theorem dX4_leftOut_8 : decode cX4_leftOut 8 = .ok (.istore 4, 2) := by decide +kernel
theorem dX4_leftOut_10 : decode cX4_leftOut 10 = .ok (.iconst 0, 1) := by decide +kernel
theorem dX4_leftOut_11 : decode cX4_leftOut 11 = .ok (.istore 5, 2) := by decide +kernel
theorem dX4_leftOut_13 : decode cX4_leftOut 13 = .ok (.iload 5, 2) := by decide +kernel
theorem dX4_leftOut_15 : decode cX4_leftOut 15 = .ok (.aload_n 0, 1) := by decide +kernel
theorem dX4_leftOut_16 : decode cX4_leftOut 16 = .ok (.iload_n 1, 1) := by decide +kernel
theorem dX4_leftOut_17 : decode cX4_leftOut 17 = .ok (.invokevirtual 50, 3) := by decide +kernel
theorem dX4_leftOut_20 : decode cX4_leftOut 20 = .ok (.if_icmp .ge 75, 3) := by decide +kernel
theorem dX4_leftOut_23 : decode cX4_leftOut 23 = .ok (.aload_n 0, 1) := by decide +kernel
theorem dX4_leftOut_24 : decode cX4_leftOut 24 = .ok (.iload_n 1, 1) := by decide +kernel
theorem dX4_leftOut_25 : decode cX4_leftOut 25 = .ok (.iload 5, 2) := by decide +kernel
theorem dX4_leftOut_27 : decode cX4_leftOut 27 = .ok (.invokevirtual 131, 3) := by decide +kernel
theorem dX4_leftOut_30 : decode cX4_leftOut 30 = .ok (.istore 6, 2) := by decide +kernel
theorem dX4_leftOut_32 : decode cX4_leftOut 32 = .ok (.iload 6, 2) := by decide +kernel
theorem dX4_leftOut_34 : decode cX4_leftOut 34 = .ok (.iconst (-1), 1) := by decide +kernel
theorem dX4_leftOut_35 : decode cX4_leftOut 35 = .ok (.if_icmp .eq 25, 3) := by decide +kernel
theorem dX4_leftOut_38 : decode cX4_leftOut 38 = .ok (.iload 6, 2) := by decide +kernel
theorem dX4_leftOut_40 : decode cX4_leftOut 40 = .ok (.iload_n 2, 1) := by decide +kernel
theorem dX4_leftOut_41 : decode cX4_leftOut 41 = .ok (.if_icmp .gt 19, 3) := by decide +kernel
theorem dX4_leftOut_44 : decode cX4_leftOut 44 = .ok (.iload_n 3, 1) := by decide +kernel
theorem dX4_leftOut_45 : decode cX4_leftOut 45 = .ok (.iconst (-1), 1) := by decide +kernel
theorem dX4_leftOut_46 : decode cX4_leftOut 46 = .ok (.if_icmp .eq 10, 3) := by decide +kernel
theorem dX4_leftOut_49 : decode cX4_leftOut 49 = .ok (.iload 6, 2) := by decide +kernel
theorem dX4_leftOut_51 : decode cX4_leftOut 51 = .ok (.iload 4, 2) := by decide +kernel
theorem dX4_leftOut_53 : decode cX4_leftOut 53 = .ok (.if_icmp .ge 7, 3) := by decide +kernel
theorem dX4_leftOut_56 : decode cX4_leftOut 56 = .ok (.iconst 1, 1) := by decide +kernel
theorem dX4_leftOut_57 : decode cX4_leftOut 57 = .ok (.goto 4, 3) := by decide +kernel
theorem dX4_leftOut_60 : decode cX4_leftOut 60 = .ok (.iconst 0, 1) := by decide +kernel
theorem dX4_leftOut_61 : decode cX4_leftOut 61 = .ok (.istore 7, 2) := by decide +kernel
theorem dX4_leftOut_63 : decode cX4_leftOut 63 = .ok (.iload 7, 2) := by decide +kernel
theorem dX4_leftOut_65 : decode cX4_leftOut 65 = .ok (.ifCond .eq 8, 3) := by decide +kernel
theorem dX4_leftOut_68 : decode cX4_leftOut 68 = .ok (.iload 5, 2) := by decide +kernel
theorem dX4_leftOut_70 : decode cX4_leftOut 70 = .ok (.goto 4, 3) := by decide +kernel
theorem dX4_leftOut_73 : decode cX4_leftOut 73 = .ok (.iload_n 3, 1) := by decide +kernel
theorem dX4_leftOut_74 : decode cX4_leftOut 74 = .ok (.istore_n 3, 1) := by decide +kernel
theorem dX4_leftOut_75 : decode cX4_leftOut 75 = .ok (.iload 7, 2) := by decide +kernel
theorem dX4_leftOut_77 : decode cX4_leftOut 77 = .ok (.ifCond .eq 8, 3) := by decide +kernel
theorem dX4_leftOut_80 : decode cX4_leftOut 80 = .ok (.iload 6, 2) := by decide +kernel
theorem dX4_leftOut_82 : decode cX4_leftOut 82 = .ok (.goto 5, 3) := by decide +kernel
theorem dX4_leftOut_85 : decode cX4_leftOut 85 = .ok (.iload 4, 2) := by decide +kernel
theorem dX4_leftOut_87 : decode cX4_leftOut 87 = .ok (.istore 4, 2) := by decide +kernel
theorem dX4_leftOut_89 : decode cX4_leftOut 89 = .ok (.iinc 5 1, 3) := by decide +kernel
theorem dX4_leftOut_92 : decode cX4_leftOut 92 = .ok (.goto (-79), 3) := by decide +kernel
theorem dX4_leftOut_95 : decode cX4_leftOut 95 = .ok (.iload_n 3, 1) := by decide +kernel
theorem dX4_leftOut_96 : decode cX4_leftOut 96 = .ok (.ireturn, 1) := by decide +kernel
set_option maxRecDepth 20000 in
theorem ggX4_reduce_X4_isCurve : GoodIn wsX4_reduce wsX4_isCurve := goodIn_r _ [4, 5, 6, 3, 7] (by decide +kernel) (by decide +kernel)
set_option maxRecDepth 20000 in
theorem gX4_reduce_X4_isCurve : GoodIn wsX4_reduce (va_wsS RX4 46 yX4_isCurve wsX4_isCurve) := goodIn_app (goodIn_of _ (by decide +kernel)) ggX4_reduce_X4_isCurve
set_option maxRecDepth 20000 in
theorem ggX4_reduce_X4_fails : GoodIn wsX4_reduce wsX4_fails := goodIn_r _ [11, 12, 75, 76, 77, 78, 79, 80, 81, 82, 83, 84, 85] (by decide +kernel) (by decide +kernel)
set_option maxRecDepth 20000 in
theorem gX4_reduce_X4_fails : GoodIn wsX4_reduce (wsV RX4 79 RX4 yX4_fails wsX4_fails) := goodIn_app (goodIn_of _ (by decide +kernel)) ggX4_reduce_X4_fails
set_option maxRecDepth 20000 in
theorem ggX4_reduce_X4_in : GoodIn wsX4_reduce wsX4_in := goodIn_r _ [7] (by decide +kernel) (by decide +kernel)
set_option maxRecDepth 20000 in
theorem gX4_reduce_X4_in : GoodIn wsX4_reduce (va_wsS RX4 42 yX4_in wsX4_in) := goodIn_app (goodIn_of _ (by decide +kernel)) ggX4_reduce_X4_in
set_option maxRecDepth 20000 in
theorem ggX4_reduce_X4_hold : GoodIn wsX4_reduce wsX4_hold := goodIn_r _ [16, 17, 18, 75, 76, 77, 78, 79, 80, 81, 82, 83, 84, 85] (by decide +kernel) (by decide +kernel)
set_option maxRecDepth 20000 in
theorem gX4_reduce_X4_hold : GoodIn wsX4_reduce (wsV RX4 91 RX4 yX4_hold wsX4_hold) := goodIn_app (goodIn_of _ (by decide +kernel)) ggX4_reduce_X4_hold
set_option maxRecDepth 20000 in
theorem ggX4_reduce_X4_leftOut : GoodIn wsX4_reduce wsX4_leftOut := goodIn_r _ [22, 23, 24, 25, 3, 26, 27, 28, 29, 30, 31, 32, 33, 34, 35, 36, 37, 38, 39, 40, 41, 18, 42, 43, 44, 45, 46, 47, 48, 49, 50, 51, 52, 53, 54, 55, 56, 57, 58, 59, 60, 61, 62, 63, 64, 75, 76, 77, 78, 79, 80, 81, 82, 83, 84, 85] (by decide +kernel) (by decide +kernel)
set_option maxRecDepth 20000 in
theorem gX4_reduce_X4_leftOut : GoodIn wsX4_reduce (wsV RX4 134 RX4 yX4_leftOut wsX4_leftOut) := goodIn_app (goodIn_of _ (by decide +kernel)) ggX4_reduce_X4_leftOut
set_option maxRecDepth 20000 in
theorem ggX4_reduce_X4_goes : GoodIn wsX4_reduce wsX4_goes := goodIn_r _ [61, 18, 46, 47, 3, 48, 38, 39, 40, 41, 75, 76, 77, 78, 79, 80, 81, 82, 83, 84, 85] (by decide +kernel) (by decide +kernel)
set_option maxRecDepth 20000 in
theorem gX4_reduce_X4_goes : GoodIn wsX4_reduce (wsV RX4 105 RX4 yX4_goes wsX4_goes) := goodIn_app (goodIn_of _ (by decide +kernel)) ggX4_reduce_X4_goes
set_option maxRecDepth 20000 in
theorem ggX4_reduce_X4_ends : GoodIn wsX4_reduce wsX4_ends := goodIn_r _ [68, 69, 70, 17, 71, 72, 73, 3, 74, 12, 75, 76, 77, 78, 79, 80, 81, 82, 83, 84, 85] (by decide +kernel) (by decide +kernel)
set_option maxRecDepth 20000 in
theorem gX4_reduce_X4_ends : GoodIn wsX4_reduce (wsV RX4 98 RX4 yX4_ends wsX4_ends) := goodIn_app (goodIn_of _ (by decide +kernel)) ggX4_reduce_X4_ends
theorem dX4_reduce_0 : decode cX4_reduce 0 = .ok (.iload_n 1, 1) := by decide +kernel
theorem dX4_reduce_1 : decode cX4_reduce 1 = .ok (.invokestatic 46, 3) := by decide +kernel
theorem dX4_reduce_4 : decode cX4_reduce 4 = .ok (.ifCond .ne 9, 3) := by decide +kernel
theorem dX4_reduce_7 : decode cX4_reduce 7 = .ok (.aload_n 0, 1) := by decide +kernel
theorem dX4_reduce_8 : decode cX4_reduce 8 = .ok (.iconst 1, 1) := by decide +kernel
theorem dX4_reduce_9 : decode cX4_reduce 9 = .ok (.invokevirtual 79, 3) := by decide +kernel
theorem dX4_reduce_12 : decode cX4_reduce 12 = .ok (.ireturn, 1) := by decide +kernel
theorem dX4_reduce_13 : decode cX4_reduce 13 = .ok (.iload_n 2, 1) := by decide +kernel
theorem dX4_reduce_14 : decode cX4_reduce 14 = .ok (.iconst 0, 1) := by decide +kernel
theorem dX4_reduce_15 : decode cX4_reduce 15 = .ok (.sipush 9999, 3) := by decide +kernel
theorem dX4_reduce_18 : decode cX4_reduce 18 = .ok (.invokestatic 42, 3) := by decide +kernel
theorem dX4_reduce_21 : decode cX4_reduce 21 = .ok (.ifCond .ne 9, 3) := by decide +kernel
theorem dX4_reduce_24 : decode cX4_reduce 24 = .ok (.aload_n 0, 1) := by decide +kernel
theorem dX4_reduce_25 : decode cX4_reduce 25 = .ok (.iconst 2, 1) := by decide +kernel
theorem dX4_reduce_26 : decode cX4_reduce 26 = .ok (.invokevirtual 79, 3) := by decide +kernel
theorem dX4_reduce_29 : decode cX4_reduce 29 = .ok (.ireturn, 1) := by decide +kernel
theorem dX4_reduce_30 : decode cX4_reduce 30 = .ok (.aload_n 0, 1) := by decide +kernel
theorem dX4_reduce_31 : decode cX4_reduce 31 = .ok (.invokevirtual 91, 3) := by decide +kernel
theorem dX4_reduce_34 : decode cX4_reduce 34 = .ok (.iconst 0, 1) := by decide +kernel
theorem dX4_reduce_35 : decode cX4_reduce 35 = .ok (.istore_n 3, 1) := by decide +kernel
theorem dX4_reduce_36 : decode cX4_reduce 36 = .ok (.aload_n 0, 1) := by decide +kernel
theorem dX4_reduce_37 : decode cX4_reduce 37 = .ok (.iload_n 1, 1) := by decide +kernel
theorem dX4_reduce_38 : decode cX4_reduce 38 = .ok (.iload_n 2, 1) := by decide +kernel
theorem dX4_reduce_39 : decode cX4_reduce 39 = .ok (.invokevirtual 134, 3) := by decide +kernel
theorem dX4_reduce_42 : decode cX4_reduce 42 = .ok (.istore 4, 2) := by decide +kernel
theorem dX4_reduce_44 : decode cX4_reduce 44 = .ok (.iload 4, 2) := by decide +kernel
theorem dX4_reduce_46 : decode cX4_reduce 46 = .ok (.iconst (-1), 1) := by decide +kernel
theorem dX4_reduce_47 : decode cX4_reduce 47 = .ok (.if_icmp .eq 24, 3) := by decide +kernel
theorem dX4_reduce_50 : decode cX4_reduce 50 = .ok (.aload_n 0, 1) := by decide +kernel
theorem dX4_reduce_51 : decode cX4_reduce 51 = .ok (.iload_n 1, 1) := by decide +kernel
theorem dX4_reduce_52 : decode cX4_reduce 52 = .ok (.iload 4, 2) := by decide +kernel
theorem dX4_reduce_54 : decode cX4_reduce 54 = .ok (.invokevirtual 105, 3) := by decide +kernel
theorem dX4_reduce_57 : decode cX4_reduce 57 = .ok (.iinc 3 1, 3) := by decide +kernel
theorem dX4_reduce_60 : decode cX4_reduce 60 = .ok (.aload_n 0, 1) := by decide +kernel
theorem dX4_reduce_61 : decode cX4_reduce 61 = .ok (.iload_n 1, 1) := by decide +kernel
theorem dX4_reduce_62 : decode cX4_reduce 62 = .ok (.iload_n 2, 1) := by decide +kernel
theorem dX4_reduce_63 : decode cX4_reduce 63 = .ok (.invokevirtual 134, 3) := by decide +kernel
theorem dX4_reduce_66 : decode cX4_reduce 66 = .ok (.istore 4, 2) := by decide +kernel
theorem dX4_reduce_68 : decode cX4_reduce 68 = .ok (.goto (-24), 3) := by decide +kernel
theorem dX4_reduce_71 : decode cX4_reduce 71 = .ok (.aload_n 0, 1) := by decide +kernel
theorem dX4_reduce_72 : decode cX4_reduce 72 = .ok (.iload_n 3, 1) := by decide +kernel
theorem dX4_reduce_73 : decode cX4_reduce 73 = .ok (.invokevirtual 98, 3) := by decide +kernel
theorem dX4_reduce_76 : decode cX4_reduce 76 = .ok (.ireturn, 1) := by decide +kernel
set_option maxRecDepth 20000 in
theorem ggX4_keyOf_X4_of : GoodIn wsX4_keyOf wsX4_of := goodIn_r _ [5, 6, 7, 8, 4, 9, 18, 19, 20, 21, 22, 23, 24, 25, 26, 27, 28] (by decide +kernel) (by decide +kernel)
set_option maxRecDepth 20000 in
theorem gX4_keyOf_X4_of : GoodIn wsX4_keyOf (wsV RX4 57 RX4 yX4_of wsX4_of) := goodIn_app (goodIn_of _ (by decide +kernel)) ggX4_keyOf_X4_of
set_option maxRecDepth 20000 in
theorem ggX4_keyOf_X4_tangent : GoodIn wsX4_keyOf wsX4_tangent := goodIn_r _ [13, 1, 2, 3, 4, 5, 6, 7, 8, 9, 14, 15, 16, 17, 18, 19, 20, 21, 22, 23, 24, 25, 26, 27, 28] (by decide +kernel) (by decide +kernel)
set_option maxRecDepth 20000 in
theorem gX4_keyOf_X4_tangent : GoodIn wsX4_keyOf (wsV RX4 71 RX4 yX4_tangent wsX4_tangent) := goodIn_app (goodIn_of _ (by decide +kernel)) ggX4_keyOf_X4_tangent
theorem dX4_keyOf_0 : decode cX4_keyOf 0 = .ok (.iload_n 3, 1) := by decide +kernel
theorem dX4_keyOf_1 : decode cX4_keyOf 1 = .ok (.iconst 5, 1) := by decide +kernel
theorem dX4_keyOf_2 : decode cX4_keyOf 2 = .ok (.if_icmp .ge 13, 3) := by decide +kernel
theorem dX4_keyOf_5 : decode cX4_keyOf 5 = .ok (.aload_n 0, 1) := by decide +kernel
theorem dX4_keyOf_6 : decode cX4_keyOf 6 = .ok (.iload_n 1, 1) := by decide +kernel
theorem dX4_keyOf_7 : decode cX4_keyOf 7 = .ok (.iload_n 2, 1) := by decide +kernel
theorem dX4_keyOf_8 : decode cX4_keyOf 8 = .ok (.iload_n 3, 1) := by decide +kernel
theorem dX4_keyOf_9 : decode cX4_keyOf 9 = .ok (.invokevirtual 57, 3) := by decide +kernel
theorem dX4_keyOf_12 : decode cX4_keyOf 12 = .ok (.goto 24, 3) := by decide +kernel
theorem dX4_keyOf_15 : decode cX4_keyOf 15 = .ok (.iload_n 3, 1) := by decide +kernel
theorem dX4_keyOf_16 : decode cX4_keyOf 16 = .ok (.iconst 5, 1) := by decide +kernel
theorem dX4_keyOf_17 : decode cX4_keyOf 17 = .ok (.if_icmp .ne 12, 3) := by decide +kernel
theorem dX4_keyOf_20 : decode cX4_keyOf 20 = .ok (.aload_n 0, 1) := by decide +kernel
theorem dX4_keyOf_21 : decode cX4_keyOf 21 = .ok (.iload_n 1, 1) := by decide +kernel
theorem dX4_keyOf_22 : decode cX4_keyOf 22 = .ok (.iload_n 2, 1) := by decide +kernel
theorem dX4_keyOf_23 : decode cX4_keyOf 23 = .ok (.invokevirtual 71, 3) := by decide +kernel
theorem dX4_keyOf_26 : decode cX4_keyOf 26 = .ok (.goto 10, 3) := by decide +kernel
theorem dX4_keyOf_29 : decode cX4_keyOf 29 = .ok (.aload_n 0, 1) := by decide +kernel
theorem dX4_keyOf_30 : decode cX4_keyOf 30 = .ok (.iload_n 1, 1) := by decide +kernel
theorem dX4_keyOf_31 : decode cX4_keyOf 31 = .ok (.iload_n 2, 1) := by decide +kernel
theorem dX4_keyOf_32 : decode cX4_keyOf 32 = .ok (.iconst 5, 1) := by decide +kernel
theorem dX4_keyOf_33 : decode cX4_keyOf 33 = .ok (.invokevirtual 57, 3) := by decide +kernel
theorem dX4_keyOf_36 : decode cX4_keyOf 36 = .ok (.ireturn, 1) := by decide +kernel
set_option maxRecDepth 20000 in
theorem ggX4_key_X4_isCurve : GoodIn wsX4_key wsX4_isCurve := goodIn_r _ [4, 5, 6, 3, 7] (by decide +kernel) (by decide +kernel)
set_option maxRecDepth 20000 in
theorem gX4_key_X4_isCurve : GoodIn wsX4_key (va_wsS RX4 46 yX4_isCurve wsX4_isCurve) := goodIn_app (goodIn_of _ (by decide +kernel)) ggX4_key_X4_isCurve
set_option maxRecDepth 20000 in
theorem ggX4_key_X4_many : GoodIn wsX4_key wsX4_many := goodIn_r _ [11, 12, 37, 38, 39, 40, 41, 42, 43, 44, 45, 46, 47] (by decide +kernel) (by decide +kernel)
set_option maxRecDepth 20000 in
theorem gX4_key_X4_many : GoodIn wsX4_key (wsV RX4 50 RX4 yX4_many wsX4_many) := goodIn_app (goodIn_of _ (by decide +kernel)) ggX4_key_X4_many
set_option maxRecDepth 20000 in
theorem ggX4_key_X4_in : GoodIn wsX4_key wsX4_in := goodIn_r _ [7] (by decide +kernel) (by decide +kernel)
set_option maxRecDepth 20000 in
theorem gX4_key_X4_in : GoodIn wsX4_key (va_wsS RX4 42 yX4_in wsX4_in) := goodIn_app (goodIn_of _ (by decide +kernel)) ggX4_key_X4_in
set_option maxRecDepth 20000 in
theorem ggX4_key_X4_fails : GoodIn wsX4_key wsX4_fails := goodIn_r _ [16, 17, 37, 38, 39, 40, 41, 42, 43, 44, 45, 46, 47] (by decide +kernel) (by decide +kernel)
set_option maxRecDepth 20000 in
theorem gX4_key_X4_fails : GoodIn wsX4_key (wsV RX4 79 RX4 yX4_fails wsX4_fails) := goodIn_app (goodIn_of _ (by decide +kernel)) ggX4_key_X4_fails
set_option maxRecDepth 20000 in
theorem ggX4_key_X4_keyOf : GoodIn wsX4_key wsX4_keyOf := goodIn_r _ [21, 22, 23, 24, 3, 25, 12, 26, 27, 28, 29, 30, 31, 32, 8, 9, 10, 11, 37, 38, 39, 40, 41, 42, 43, 44, 45, 46, 47] (by decide +kernel) (by decide +kernel)
set_option maxRecDepth 20000 in
theorem gX4_key_X4_keyOf : GoodIn wsX4_key (wsV RX4 137 RX4 yX4_keyOf wsX4_keyOf) := goodIn_app (goodIn_of _ (by decide +kernel)) ggX4_key_X4_keyOf
set_option maxRecDepth 20000 in
theorem ggX4_key_X4_tells : GoodIn wsX4_key wsX4_tells := goodIn_r _ [36, 17, 37, 38, 39, 40, 41, 42, 43, 44, 45, 46, 47] (by decide +kernel) (by decide +kernel)
set_option maxRecDepth 20000 in
theorem gX4_key_X4_tells : GoodIn wsX4_key (wsV RX4 38 RX4 yX4_tells wsX4_tells) := goodIn_app (goodIn_of _ (by decide +kernel)) ggX4_key_X4_tells
theorem dX4_key_0 : decode cX4_key 0 = .ok (.iload_n 1, 1) := by decide +kernel
theorem dX4_key_1 : decode cX4_key 1 = .ok (.invokestatic 46, 3) := by decide +kernel
theorem dX4_key_4 : decode cX4_key 4 = .ok (.ifCond .eq 18, 3) := by decide +kernel
theorem dX4_key_7 : decode cX4_key 7 = .ok (.iload_n 2, 1) := by decide +kernel
theorem dX4_key_8 : decode cX4_key 8 = .ok (.iconst (-1), 1) := by decide +kernel
theorem dX4_key_9 : decode cX4_key 9 = .ok (.aload_n 0, 1) := by decide +kernel
theorem dX4_key_10 : decode cX4_key 10 = .ok (.iload_n 1, 1) := by decide +kernel
theorem dX4_key_11 : decode cX4_key 11 = .ok (.invokevirtual 50, 3) := by decide +kernel
theorem dX4_key_14 : decode cX4_key 14 = .ok (.iconst 1, 1) := by decide +kernel
theorem dX4_key_15 : decode cX4_key 15 = .ok (.isub, 1) := by decide +kernel
theorem dX4_key_16 : decode cX4_key 16 = .ok (.invokestatic 42, 3) := by decide +kernel
theorem dX4_key_19 : decode cX4_key 19 = .ok (.ifCond .ne 9, 3) := by decide +kernel
theorem dX4_key_22 : decode cX4_key 22 = .ok (.aload_n 0, 1) := by decide +kernel
theorem dX4_key_23 : decode cX4_key 23 = .ok (.iconst 1, 1) := by decide +kernel
theorem dX4_key_24 : decode cX4_key 24 = .ok (.invokevirtual 79, 3) := by decide +kernel
theorem dX4_key_27 : decode cX4_key 27 = .ok (.ireturn, 1) := by decide +kernel
theorem dX4_key_28 : decode cX4_key 28 = .ok (.iload_n 3, 1) := by decide +kernel
theorem dX4_key_29 : decode cX4_key 29 = .ok (.iconst 0, 1) := by decide +kernel
theorem dX4_key_30 : decode cX4_key 30 = .ok (.bipush 6, 2) := by decide +kernel
theorem dX4_key_32 : decode cX4_key 32 = .ok (.invokestatic 42, 3) := by decide +kernel
theorem dX4_key_35 : decode cX4_key 35 = .ok (.ifCond .ne 9, 3) := by decide +kernel
theorem dX4_key_38 : decode cX4_key 38 = .ok (.aload_n 0, 1) := by decide +kernel
theorem dX4_key_39 : decode cX4_key 39 = .ok (.iconst 2, 1) := by decide +kernel
theorem dX4_key_40 : decode cX4_key 40 = .ok (.invokevirtual 79, 3) := by decide +kernel
theorem dX4_key_43 : decode cX4_key 43 = .ok (.ireturn, 1) := by decide +kernel
theorem dX4_key_44 : decode cX4_key 44 = .ok (.aload_n 0, 1) := by decide +kernel
theorem dX4_key_45 : decode cX4_key 45 = .ok (.iload_n 2, 1) := by decide +kernel
theorem dX4_key_46 : decode cX4_key 46 = .ok (.iconst (-1), 1) := by decide +kernel
theorem dX4_key_47 : decode cX4_key 47 = .ok (.if_icmp .ne 11, 3) := by decide +kernel
theorem dX4_key_50 : decode cX4_key 50 = .ok (.aload_n 0, 1) := by decide +kernel
theorem dX4_key_51 : decode cX4_key 51 = .ok (.iload_n 1, 1) := by decide +kernel
theorem dX4_key_52 : decode cX4_key 52 = .ok (.invokevirtual 50, 3) := by decide +kernel
theorem dX4_key_55 : decode cX4_key 55 = .ok (.goto 10, 3) := by decide +kernel
theorem dX4_key_58 : decode cX4_key 58 = .ok (.aload_n 0, 1) := by decide +kernel
theorem dX4_key_59 : decode cX4_key 59 = .ok (.iload_n 1, 1) := by decide +kernel
theorem dX4_key_60 : decode cX4_key 60 = .ok (.iload_n 2, 1) := by decide +kernel
theorem dX4_key_61 : decode cX4_key 61 = .ok (.iload_n 3, 1) := by decide +kernel
theorem dX4_key_62 : decode cX4_key 62 = .ok (.invokevirtual 137, 3) := by decide +kernel
theorem dX4_key_65 : decode cX4_key 65 = .ok (.invokevirtual 38, 3) := by decide +kernel
theorem dX4_key_68 : decode cX4_key 68 = .ok (.ireturn, 1) := by decide +kernel
set_option maxRecDepth 20000 in
theorem ggX4_value_X4_isCurve : GoodIn wsX4_value wsX4_isCurve := goodIn_r _ [4, 5, 6, 3, 7] (by decide +kernel) (by decide +kernel)
set_option maxRecDepth 20000 in
theorem gX4_value_X4_isCurve : GoodIn wsX4_value (va_wsS RX4 46 yX4_isCurve wsX4_isCurve) := goodIn_app (goodIn_of _ (by decide +kernel)) ggX4_value_X4_isCurve
set_option maxRecDepth 20000 in
theorem ggX4_value_X4_fails : GoodIn wsX4_value wsX4_fails := goodIn_r _ [11, 12, 46, 47, 48, 49, 50, 51, 52, 53, 54, 55, 56] (by decide +kernel) (by decide +kernel)
set_option maxRecDepth 20000 in
theorem gX4_value_X4_fails : GoodIn wsX4_value (wsV RX4 79 RX4 yX4_fails wsX4_fails) := goodIn_app (goodIn_of _ (by decide +kernel)) ggX4_value_X4_fails
set_option maxRecDepth 20000 in
theorem ggX4_value_X4_isFrame : GoodIn wsX4_value wsX4_isFrame := goodIn_r _ [15, 5, 6, 3, 7] (by decide +kernel) (by decide +kernel)
set_option maxRecDepth 20000 in
theorem gX4_value_X4_isFrame : GoodIn wsX4_value (va_wsS RX4 82 yX4_isFrame wsX4_isFrame) := goodIn_app (goodIn_of _ (by decide +kernel)) ggX4_value_X4_isFrame
set_option maxRecDepth 20000 in
theorem ggX4_value_X4_valueAt : GoodIn wsX4_value wsX4_valueAt := goodIn_r _ [19, 20, 21, 22, 23, 24, 25, 26, 27, 28, 3, 29, 30, 31, 32, 33, 34, 35, 36, 37, 38, 39, 40, 41, 46, 47, 48, 49, 50, 51, 52, 53, 54, 55, 56] (by decide +kernel) (by decide +kernel)
set_option maxRecDepth 20000 in
theorem gX4_value_X4_valueAt : GoodIn wsX4_value (wsV RX4 76 RX4 yX4_valueAt wsX4_valueAt) := goodIn_app (goodIn_of _ (by decide +kernel)) ggX4_value_X4_valueAt
set_option maxRecDepth 20000 in
theorem ggX4_value_X4_tells : GoodIn wsX4_value wsX4_tells := goodIn_r _ [45, 12, 46, 47, 48, 49, 50, 51, 52, 53, 54, 55, 56] (by decide +kernel) (by decide +kernel)
set_option maxRecDepth 20000 in
theorem gX4_value_X4_tells : GoodIn wsX4_value (wsV RX4 38 RX4 yX4_tells wsX4_tells) := goodIn_app (goodIn_of _ (by decide +kernel)) ggX4_value_X4_tells
theorem dX4_value_0 : decode cX4_value 0 = .ok (.iload_n 1, 1) := by decide +kernel
theorem dX4_value_1 : decode cX4_value 1 = .ok (.invokestatic 46, 3) := by decide +kernel
theorem dX4_value_4 : decode cX4_value 4 = .ok (.ifCond .ne 9, 3) := by decide +kernel
theorem dX4_value_7 : decode cX4_value 7 = .ok (.aload_n 0, 1) := by decide +kernel
theorem dX4_value_8 : decode cX4_value 8 = .ok (.iconst 1, 1) := by decide +kernel
theorem dX4_value_9 : decode cX4_value 9 = .ok (.invokevirtual 79, 3) := by decide +kernel
theorem dX4_value_12 : decode cX4_value 12 = .ok (.ireturn, 1) := by decide +kernel
theorem dX4_value_13 : decode cX4_value 13 = .ok (.iload_n 2, 1) := by decide +kernel
theorem dX4_value_14 : decode cX4_value 14 = .ok (.invokestatic 82, 3) := by decide +kernel
theorem dX4_value_17 : decode cX4_value 17 = .ok (.ifCond .eq 16, 3) := by decide +kernel
theorem dX4_value_20 : decode cX4_value 20 = .ok (.aload_n 0, 1) := by decide +kernel
theorem dX4_value_21 : decode cX4_value 21 = .ok (.aload_n 0, 1) := by decide +kernel
theorem dX4_value_22 : decode cX4_value 22 = .ok (.iload_n 1, 1) := by decide +kernel
theorem dX4_value_23 : decode cX4_value 23 = .ok (.iload_n 2, 1) := by decide +kernel
theorem dX4_value_24 : decode cX4_value 24 = .ok (.invokevirtual 76, 3) := by decide +kernel
theorem dX4_value_27 : decode cX4_value 27 = .ok (.invokevirtual 38, 3) := by decide +kernel
theorem dX4_value_30 : decode cX4_value 30 = .ok (.goto 8, 3) := by decide +kernel
theorem dX4_value_33 : decode cX4_value 33 = .ok (.aload_n 0, 1) := by decide +kernel
theorem dX4_value_34 : decode cX4_value 34 = .ok (.iconst 2, 1) := by decide +kernel
theorem dX4_value_35 : decode cX4_value 35 = .ok (.invokevirtual 79, 3) := by decide +kernel
theorem dX4_value_38 : decode cX4_value 38 = .ok (.ireturn, 1) := by decide +kernel
set_option maxRecDepth 20000 in
theorem ggX4_areFrames_X4_isFrame : GoodIn wsX4_areFrames wsX4_isFrame := goodIn_r _ [4, 5, 6, 3, 7] (by decide +kernel) (by decide +kernel)
set_option maxRecDepth 20000 in
theorem gX4_areFrames_X4_isFrame : GoodIn wsX4_areFrames (va_wsS RX4 82 yX4_isFrame wsX4_isFrame) := goodIn_app (goodIn_of _ (by decide +kernel)) ggX4_areFrames_X4_isFrame
set_option maxRecDepth 20000 in
theorem ggX4_areFrames_X4_in : GoodIn wsX4_areFrames wsX4_in := goodIn_r _ [7] (by decide +kernel) (by decide +kernel)
set_option maxRecDepth 20000 in
theorem gX4_areFrames_X4_in : GoodIn wsX4_areFrames (va_wsS RX4 42 yX4_in wsX4_in) := goodIn_app (goodIn_of _ (by decide +kernel)) ggX4_areFrames_X4_in
theorem dX4_areFrames_0 : decode cX4_areFrames 0 = .ok (.iload_n 0, 1) := by decide +kernel
theorem dX4_areFrames_1 : decode cX4_areFrames 1 = .ok (.invokestatic 82, 3) := by decide +kernel
theorem dX4_areFrames_4 : decode cX4_areFrames 4 = .ok (.ifCond .eq 18, 3) := by decide +kernel
theorem dX4_areFrames_7 : decode cX4_areFrames 7 = .ok (.iload_n 1, 1) := by decide +kernel
theorem dX4_areFrames_8 : decode cX4_areFrames 8 = .ok (.iload_n 0, 1) := by decide +kernel
theorem dX4_areFrames_9 : decode cX4_areFrames 9 = .ok (.sipush 999, 3) := by decide +kernel
theorem dX4_areFrames_12 : decode cX4_areFrames 12 = .ok (.invokestatic 42, 3) := by decide +kernel
theorem dX4_areFrames_15 : decode cX4_areFrames 15 = .ok (.ifCond .eq 7, 3) := by decide +kernel
theorem dX4_areFrames_18 : decode cX4_areFrames 18 = .ok (.iconst 1, 1) := by decide +kernel
theorem dX4_areFrames_19 : decode cX4_areFrames 19 = .ok (.goto 4, 3) := by decide +kernel
theorem dX4_areFrames_22 : decode cX4_areFrames 22 = .ok (.iconst 0, 1) := by decide +kernel
theorem dX4_areFrames_23 : decode cX4_areFrames 23 = .ok (.ireturn, 1) := by decide +kernel
set_option maxRecDepth 20000 in
theorem ggX4_sumOf_X4_valueAt : GoodIn wsX4_sumOf wsX4_valueAt := goodIn_r _ [5, 6, 7, 8, 9, 10, 11, 12, 13, 14, 4, 15, 16, 17, 18, 19, 20, 21, 22, 23, 24, 25, 26, 27, 28, 29, 30, 31, 32, 33, 34, 35, 36, 37, 38] (by decide +kernel) (by decide +kernel)
set_option maxRecDepth 20000 in
theorem gX4_sumOf_X4_valueAt : GoodIn wsX4_sumOf (wsV RX4 76 RX4 yX4_valueAt wsX4_valueAt) := goodIn_app (goodIn_of _ (by decide +kernel)) ggX4_sumOf_X4_valueAt
theorem dX4_sumOf_0 : decode cX4_sumOf 0 = .ok (.lconst 0, 1) := by decide +kernel
theorem dX4_sumOf_1 : decode cX4_sumOf 1 = .ok (.lstore 4, 2) := by decide +kernel
theorem dX4_sumOf_3 : decode cX4_sumOf 3 = .ok (.iload_n 2, 1) := by decide +kernel
theorem dX4_sumOf_4 : decode cX4_sumOf 4 = .ok (.istore 6, 2) := by decide +kernel
theorem dX4_sumOf_6 : decode cX4_sumOf 6 = .ok (.iload 6, 2) := by decide +kernel
theorem dX4_sumOf_8 : decode cX4_sumOf 8 = .ok (.iload_n 3, 1) := by decide +kernel
theorem dX4_sumOf_9 : decode cX4_sumOf 9 = .ok (.if_icmp .gt 22, 3) := by decide +kernel
theorem dX4_sumOf_12 : decode cX4_sumOf 12 = .ok (.lload 4, 2) := by decide +kernel
theorem dX4_sumOf_14 : decode cX4_sumOf 14 = .ok (.aload_n 0, 1) := by decide +kernel
theorem dX4_sumOf_15 : decode cX4_sumOf 15 = .ok (.iload_n 1, 1) := by decide +kernel
theorem dX4_sumOf_16 : decode cX4_sumOf 16 = .ok (.iload 6, 2) := by decide +kernel
theorem dX4_sumOf_18 : decode cX4_sumOf 18 = .ok (.invokevirtual 76, 3) := by decide +kernel
theorem dX4_sumOf_21 : decode cX4_sumOf 21 = .ok (.i2l, 1) := by decide +kernel
theorem dX4_sumOf_22 : decode cX4_sumOf 22 = .ok (.ladd, 1) := by decide +kernel
theorem dX4_sumOf_23 : decode cX4_sumOf 23 = .ok (.lstore 4, 2) := by decide +kernel
theorem dX4_sumOf_25 : decode cX4_sumOf 25 = .ok (.iinc 6 1, 3) := by decide +kernel
theorem dX4_sumOf_28 : decode cX4_sumOf 28 = .ok (.goto (-22), 3) := by decide +kernel
theorem dX4_sumOf_31 : decode cX4_sumOf 31 = .ok (.lload 4, 2) := by decide +kernel
theorem dX4_sumOf_33 : decode cX4_sumOf 33 = .ok (.lreturn, 1) := by decide +kernel
set_option maxRecDepth 20000 in
theorem ggX4_sum_X4_isCurve : GoodIn wsX4_sum wsX4_isCurve := goodIn_r _ [5, 6, 7, 4, 8] (by decide +kernel) (by decide +kernel)
set_option maxRecDepth 20000 in
theorem gX4_sum_X4_isCurve : GoodIn wsX4_sum (va_wsS RX4 46 yX4_isCurve wsX4_isCurve) := goodIn_app (goodIn_of _ (by decide +kernel)) ggX4_sum_X4_isCurve
set_option maxRecDepth 20000 in
theorem ggX4_sum_X4_fails : GoodIn wsX4_sum wsX4_fails := goodIn_r _ [12, 1, 49, 50, 51, 52, 53, 54, 55, 56, 57, 58, 59] (by decide +kernel) (by decide +kernel)
set_option maxRecDepth 20000 in
theorem gX4_sum_X4_fails : GoodIn wsX4_sum (wsV RX4 79 RX4 yX4_fails wsX4_fails) := goodIn_app (goodIn_of _ (by decide +kernel)) ggX4_sum_X4_fails
set_option maxRecDepth 20000 in
theorem ggX4_sum_X4_areFrames : GoodIn wsX4_sum wsX4_areFrames := goodIn_r _ [15, 16, 17, 4, 18, 6, 7, 8] (by decide +kernel) (by decide +kernel)
set_option maxRecDepth 20000 in
theorem gX4_sum_X4_areFrames : GoodIn wsX4_sum (va_wsS RX4 140 yX4_areFrames wsX4_areFrames) := goodIn_app (goodIn_of _ (by decide +kernel)) ggX4_sum_X4_areFrames
set_option maxRecDepth 20000 in
theorem ggX4_sum_X4_sumOf : GoodIn wsX4_sum wsX4_sumOf := goodIn_r _ [22, 23, 24, 25, 4, 26, 27, 28, 29, 30, 31, 32, 33, 34, 35, 36, 37, 38, 39, 40, 41, 42, 43, 44, 45, 46, 47, 48, 49, 50, 51, 52, 53, 54, 55, 56, 57, 58, 59] (by decide +kernel) (by decide +kernel)
set_option maxRecDepth 20000 in
theorem gX4_sum_X4_sumOf : GoodIn wsX4_sum (wsV RX4 143 RX4 yX4_sumOf wsX4_sumOf) := goodIn_app (goodIn_of _ (by decide +kernel)) ggX4_sum_X4_sumOf
theorem dX4_sum_0 : decode cX4_sum 0 = .ok (.iload_n 1, 1) := by decide +kernel
theorem dX4_sum_1 : decode cX4_sum 1 = .ok (.invokestatic 46, 3) := by decide +kernel
theorem dX4_sum_4 : decode cX4_sum 4 = .ok (.ifCond .ne 10, 3) := by decide +kernel
theorem dX4_sum_7 : decode cX4_sum 7 = .ok (.aload_n 0, 1) := by decide +kernel
theorem dX4_sum_8 : decode cX4_sum 8 = .ok (.iconst 1, 1) := by decide +kernel
theorem dX4_sum_9 : decode cX4_sum 9 = .ok (.invokevirtual 79, 3) := by decide +kernel
theorem dX4_sum_12 : decode cX4_sum 12 = .ok (.i2l, 1) := by decide +kernel
theorem dX4_sum_13 : decode cX4_sum 13 = .ok (.lreturn, 1) := by decide +kernel
theorem dX4_sum_14 : decode cX4_sum 14 = .ok (.iload_n 2, 1) := by decide +kernel
theorem dX4_sum_15 : decode cX4_sum 15 = .ok (.iload_n 3, 1) := by decide +kernel
theorem dX4_sum_16 : decode cX4_sum 16 = .ok (.invokestatic 140, 3) := by decide +kernel
theorem dX4_sum_19 : decode cX4_sum 19 = .ok (.ifCond .ne 10, 3) := by decide +kernel
theorem dX4_sum_22 : decode cX4_sum 22 = .ok (.aload_n 0, 1) := by decide +kernel
theorem dX4_sum_23 : decode cX4_sum 23 = .ok (.iconst 2, 1) := by decide +kernel
theorem dX4_sum_24 : decode cX4_sum 24 = .ok (.invokevirtual 79, 3) := by decide +kernel
theorem dX4_sum_27 : decode cX4_sum 27 = .ok (.i2l, 1) := by decide +kernel
theorem dX4_sum_28 : decode cX4_sum 28 = .ok (.lreturn, 1) := by decide +kernel
theorem dX4_sum_29 : decode cX4_sum 29 = .ok (.aload_n 0, 1) := by decide +kernel
theorem dX4_sum_30 : decode cX4_sum 30 = .ok (.iconst 0, 1) := by decide +kernel
theorem dX4_sum_31 : decode cX4_sum 31 = .ok (.putfield 32, 3) := by decide +kernel
theorem dX4_sum_34 : decode cX4_sum 34 = .ok (.aload_n 0, 1) := by decide +kernel
theorem dX4_sum_35 : decode cX4_sum 35 = .ok (.iload_n 1, 1) := by decide +kernel
theorem dX4_sum_36 : decode cX4_sum 36 = .ok (.iload_n 2, 1) := by decide +kernel
theorem dX4_sum_37 : decode cX4_sum 37 = .ok (.iload_n 3, 1) := by decide +kernel
theorem dX4_sum_38 : decode cX4_sum 38 = .ok (.invokevirtual 143, 3) := by decide +kernel
theorem dX4_sum_41 : decode cX4_sum 41 = .ok (.lreturn, 1) := by decide +kernel
set_option maxRecDepth 20000 in
theorem ggX4_extremeOf_X4_bakes : GoodIn wsX4_extremeOf wsX4_bakes := goodIn_r _ [6, 1, 7, 8, 9, 5, 10, 11, 12, 13, 14, 15, 16, 17, 18, 19, 20, 21, 22, 23, 24, 25, 26, 27, 28, 29, 30, 31, 32, 36, 37, 38, 39, 40, 41, 42, 43, 44, 45, 46] (by decide +kernel) (by decide +kernel)
set_option maxRecDepth 20000 in
theorem gX4_extremeOf_X4_bakes : GoodIn wsX4_extremeOf (wsV RX4 127 RX4 yX4_bakes wsX4_bakes) := goodIn_app (goodIn_of _ (by decide +kernel)) ggX4_extremeOf_X4_bakes
set_option maxRecDepth 20000 in
theorem ggX4_extremeOf_X4_apart : GoodIn wsX4_extremeOf wsX4_apart := goodIn_r _ [35] (by decide +kernel) (by decide +kernel)
set_option maxRecDepth 20000 in
theorem gX4_extremeOf_X4_apart : GoodIn wsX4_extremeOf (va_wsS RX4 124 yX4_apart wsX4_apart) := goodIn_app (goodIn_of _ (by decide +kernel)) ggX4_extremeOf_X4_apart
theorem dX4_extremeOf_0 : decode cX4_extremeOf 0 = .ok (.aload_n 0, 1) := by decide +kernel
theorem dX4_extremeOf_1 : decode cX4_extremeOf 1 = .ok (.iload_n 1, 1) := by decide +kernel
theorem dX4_extremeOf_2 : decode cX4_extremeOf 2 = .ok (.invokevirtual 127, 3) := by decide +kernel
theorem dX4_extremeOf_5 : decode cX4_extremeOf 5 = .ok (.iload_n 2, 1) := by decide +kernel
theorem dX4_extremeOf_6 : decode cX4_extremeOf 6 = .ok (.istore 5, 2) := by decide +kernel
theorem dX4_extremeOf_8 : decode cX4_extremeOf 8 = .ok (.iload_n 2, 1) := by decide +kernel
theorem dX4_extremeOf_9 : decode cX4_extremeOf 9 = .ok (.istore 6, 2) := by decide +kernel
theorem dX4_extremeOf_11 : decode cX4_extremeOf 11 = .ok (.iconst 0, 1) := by decide +kernel
theorem dX4_extremeOf_12 : decode cX4_extremeOf 12 = .ok (.istore 7, 2) := by decide +kernel
theorem dX4_extremeOf_14 : decode cX4_extremeOf 14 = .ok (.iload_n 2, 1) := by decide +kernel
theorem dX4_extremeOf_15 : decode cX4_extremeOf 15 = .ok (.iconst 1, 1) := by decide +kernel
theorem dX4_extremeOf_16 : decode cX4_extremeOf 16 = .ok (.iadd, 1) := by decide +kernel
theorem dX4_extremeOf_17 : decode cX4_extremeOf 17 = .ok (.istore 8, 2) := by decide +kernel
theorem dX4_extremeOf_19 : decode cX4_extremeOf 19 = .ok (.iload 8, 2) := by decide +kernel
theorem dX4_extremeOf_21 : decode cX4_extremeOf 21 = .ok (.iload_n 3, 1) := by decide +kernel
theorem dX4_extremeOf_22 : decode cX4_extremeOf 22 = .ok (.if_icmp .gt 98, 3) := by decide +kernel
theorem dX4_extremeOf_25 : decode cX4_extremeOf 25 = .ok (.aload_n 0, 1) := by decide +kernel
theorem dX4_extremeOf_26 : decode cX4_extremeOf 26 = .ok (.getfield 25, 3) := by decide +kernel
theorem dX4_extremeOf_29 : decode cX4_extremeOf 29 = .ok (.iload 8, 2) := by decide +kernel
theorem dX4_extremeOf_31 : decode cX4_extremeOf 31 = .ok (.iaload, 1) := by decide +kernel
theorem dX4_extremeOf_32 : decode cX4_extremeOf 32 = .ok (.aload_n 0, 1) := by decide +kernel
theorem dX4_extremeOf_33 : decode cX4_extremeOf 33 = .ok (.getfield 25, 3) := by decide +kernel
theorem dX4_extremeOf_36 : decode cX4_extremeOf 36 = .ok (.iload 5, 2) := by decide +kernel
theorem dX4_extremeOf_38 : decode cX4_extremeOf 38 = .ok (.iaload, 1) := by decide +kernel
theorem dX4_extremeOf_39 : decode cX4_extremeOf 39 = .ok (.if_icmp .le 8, 3) := by decide +kernel
theorem dX4_extremeOf_42 : decode cX4_extremeOf 42 = .ok (.iload 8, 2) := by decide +kernel
theorem dX4_extremeOf_44 : decode cX4_extremeOf 44 = .ok (.goto 5, 3) := by decide +kernel
theorem dX4_extremeOf_47 : decode cX4_extremeOf 47 = .ok (.iload 5, 2) := by decide +kernel
theorem dX4_extremeOf_49 : decode cX4_extremeOf 49 = .ok (.istore 5, 2) := by decide +kernel
theorem dX4_extremeOf_51 : decode cX4_extremeOf 51 = .ok (.aload_n 0, 1) := by decide +kernel
theorem dX4_extremeOf_52 : decode cX4_extremeOf 52 = .ok (.getfield 25, 3) := by decide +kernel
theorem dX4_extremeOf_55 : decode cX4_extremeOf 55 = .ok (.iload 8, 2) := by decide +kernel
theorem dX4_extremeOf_57 : decode cX4_extremeOf 57 = .ok (.iaload, 1) := by decide +kernel
theorem dX4_extremeOf_58 : decode cX4_extremeOf 58 = .ok (.aload_n 0, 1) := by decide +kernel
theorem dX4_extremeOf_59 : decode cX4_extremeOf 59 = .ok (.getfield 25, 3) := by decide +kernel
theorem dX4_extremeOf_62 : decode cX4_extremeOf 62 = .ok (.iload 6, 2) := by decide +kernel
theorem dX4_extremeOf_64 : decode cX4_extremeOf 64 = .ok (.iaload, 1) := by decide +kernel
theorem dX4_extremeOf_65 : decode cX4_extremeOf 65 = .ok (.if_icmp .ge 8, 3) := by decide +kernel
theorem dX4_extremeOf_68 : decode cX4_extremeOf 68 = .ok (.iload 8, 2) := by decide +kernel
theorem dX4_extremeOf_70 : decode cX4_extremeOf 70 = .ok (.goto 5, 3) := by decide +kernel
theorem dX4_extremeOf_73 : decode cX4_extremeOf 73 = .ok (.iload 6, 2) := by decide +kernel
theorem dX4_extremeOf_75 : decode cX4_extremeOf 75 = .ok (.istore 6, 2) := by decide +kernel
theorem dX4_extremeOf_77 : decode cX4_extremeOf 77 = .ok (.aload_n 0, 1) := by decide +kernel
theorem dX4_extremeOf_78 : decode cX4_extremeOf 78 = .ok (.getfield 25, 3) := by decide +kernel
theorem dX4_extremeOf_81 : decode cX4_extremeOf 81 = .ok (.iload 8, 2) := by decide +kernel
theorem dX4_extremeOf_83 : decode cX4_extremeOf 83 = .ok (.iaload, 1) := by decide +kernel
theorem dX4_extremeOf_84 : decode cX4_extremeOf 84 = .ok (.aload_n 0, 1) := by decide +kernel
theorem dX4_extremeOf_85 : decode cX4_extremeOf 85 = .ok (.getfield 25, 3) := by decide +kernel
theorem dX4_extremeOf_88 : decode cX4_extremeOf 88 = .ok (.iload 8, 2) := by decide +kernel
theorem dX4_extremeOf_90 : decode cX4_extremeOf 90 = .ok (.iconst 1, 1) := by decide +kernel
theorem dX4_extremeOf_91 : decode cX4_extremeOf 91 = .ok (.isub, 1) := by decide +kernel
theorem dX4_extremeOf_92 : decode cX4_extremeOf 92 = .ok (.iaload, 1) := by decide +kernel
theorem dX4_extremeOf_93 : decode cX4_extremeOf 93 = .ok (.invokestatic 124, 3) := by decide +kernel
theorem dX4_extremeOf_96 : decode cX4_extremeOf 96 = .ok (.istore 9, 2) := by decide +kernel
theorem dX4_extremeOf_98 : decode cX4_extremeOf 98 = .ok (.iload 9, 2) := by decide +kernel
theorem dX4_extremeOf_100 : decode cX4_extremeOf 100 = .ok (.iload 7, 2) := by decide +kernel
theorem dX4_extremeOf_102 : decode cX4_extremeOf 102 = .ok (.if_icmp .le 8, 3) := by decide +kernel
theorem dX4_extremeOf_105 : decode cX4_extremeOf 105 = .ok (.iload 9, 2) := by decide +kernel
theorem dX4_extremeOf_107 : decode cX4_extremeOf 107 = .ok (.goto 5, 3) := by decide +kernel
theorem dX4_extremeOf_110 : decode cX4_extremeOf 110 = .ok (.iload 7, 2) := by decide +kernel
theorem dX4_extremeOf_112 : decode cX4_extremeOf 112 = .ok (.istore 7, 2) := by decide +kernel
theorem dX4_extremeOf_114 : decode cX4_extremeOf 114 = .ok (.iinc 8 1, 3) := by decide +kernel
theorem dX4_extremeOf_117 : decode cX4_extremeOf 117 = .ok (.goto (-98), 3) := by decide +kernel
theorem dX4_extremeOf_120 : decode cX4_extremeOf 120 = .ok (.iload 4, 2) := by decide +kernel
theorem dX4_extremeOf_122 : decode cX4_extremeOf 122 = .ok (.tableswitch 52 0 3 #[30, 38, 41, 49], 30) := by decide +kernel
theorem dX4_extremeOf_152 : decode cX4_extremeOf 152 = .ok (.aload_n 0, 1) := by decide +kernel
theorem dX4_extremeOf_153 : decode cX4_extremeOf 153 = .ok (.getfield 25, 3) := by decide +kernel
theorem dX4_extremeOf_156 : decode cX4_extremeOf 156 = .ok (.iload 5, 2) := by decide +kernel
theorem dX4_extremeOf_158 : decode cX4_extremeOf 158 = .ok (.iaload, 1) := by decide +kernel
theorem dX4_extremeOf_159 : decode cX4_extremeOf 159 = .ok (.ireturn, 1) := by decide +kernel
theorem dX4_extremeOf_160 : decode cX4_extremeOf 160 = .ok (.iload 5, 2) := by decide +kernel
theorem dX4_extremeOf_162 : decode cX4_extremeOf 162 = .ok (.ireturn, 1) := by decide +kernel
theorem dX4_extremeOf_163 : decode cX4_extremeOf 163 = .ok (.aload_n 0, 1) := by decide +kernel
theorem dX4_extremeOf_164 : decode cX4_extremeOf 164 = .ok (.getfield 25, 3) := by decide +kernel
theorem dX4_extremeOf_167 : decode cX4_extremeOf 167 = .ok (.iload 6, 2) := by decide +kernel
theorem dX4_extremeOf_169 : decode cX4_extremeOf 169 = .ok (.iaload, 1) := by decide +kernel
theorem dX4_extremeOf_170 : decode cX4_extremeOf 170 = .ok (.ireturn, 1) := by decide +kernel
theorem dX4_extremeOf_171 : decode cX4_extremeOf 171 = .ok (.iload 6, 2) := by decide +kernel
theorem dX4_extremeOf_173 : decode cX4_extremeOf 173 = .ok (.ireturn, 1) := by decide +kernel
theorem dX4_extremeOf_174 : decode cX4_extremeOf 174 = .ok (.iload 7, 2) := by decide +kernel
theorem dX4_extremeOf_176 : decode cX4_extremeOf 176 = .ok (.ireturn, 1) := by decide +kernel
set_option maxRecDepth 20000 in
theorem ggX4_extreme_X4_isCurve : GoodIn wsX4_extreme wsX4_isCurve := goodIn_r _ [4, 5, 6, 3, 7] (by decide +kernel) (by decide +kernel)
set_option maxRecDepth 20000 in
theorem gX4_extreme_X4_isCurve : GoodIn wsX4_extreme (va_wsS RX4 46 yX4_isCurve wsX4_isCurve) := goodIn_app (goodIn_of _ (by decide +kernel)) ggX4_extreme_X4_isCurve
set_option maxRecDepth 20000 in
theorem ggX4_extreme_X4_fails : GoodIn wsX4_extreme wsX4_fails := goodIn_r _ [11, 12, 61, 62, 63, 64, 65, 66, 67, 68, 69, 70, 71] (by decide +kernel) (by decide +kernel)
set_option maxRecDepth 20000 in
theorem gX4_extreme_X4_fails : GoodIn wsX4_extreme (wsV RX4 79 RX4 yX4_fails wsX4_fails) := goodIn_app (goodIn_of _ (by decide +kernel)) ggX4_extreme_X4_fails
set_option maxRecDepth 20000 in
theorem ggX4_extreme_X4_areFrames : GoodIn wsX4_extreme wsX4_areFrames := goodIn_r _ [15, 16, 17, 3, 18, 5, 6, 7] (by decide +kernel) (by decide +kernel)
set_option maxRecDepth 20000 in
theorem gX4_extreme_X4_areFrames : GoodIn wsX4_extreme (va_wsS RX4 140 yX4_areFrames wsX4_areFrames) := goodIn_app (goodIn_of _ (by decide +kernel)) ggX4_extreme_X4_areFrames
set_option maxRecDepth 20000 in
theorem ggX4_extreme_X4_in : GoodIn wsX4_extreme wsX4_in := goodIn_r _ [7] (by decide +kernel) (by decide +kernel)
set_option maxRecDepth 20000 in
theorem gX4_extreme_X4_in : GoodIn wsX4_extreme (va_wsS RX4 42 yX4_in wsX4_in) := goodIn_app (goodIn_of _ (by decide +kernel)) ggX4_extreme_X4_in
set_option maxRecDepth 20000 in
theorem ggX4_extreme_X4_extremeOf : GoodIn wsX4_extreme wsX4_extremeOf := goodIn_r _ [22, 23, 24, 25, 26, 3, 27, 28, 29, 30, 31, 32, 33, 34, 35, 36, 37, 38, 39, 40, 41, 42, 43, 44, 45, 46, 47, 48, 49, 50, 51, 52, 53, 54, 55, 56, 61, 62, 63, 64, 65, 66, 67, 68, 69, 70, 71] (by decide +kernel) (by decide +kernel)
set_option maxRecDepth 20000 in
theorem gX4_extreme_X4_extremeOf : GoodIn wsX4_extreme (wsV RX4 147 RX4 yX4_extremeOf wsX4_extremeOf) := goodIn_app (goodIn_of _ (by decide +kernel)) ggX4_extreme_X4_extremeOf
set_option maxRecDepth 20000 in
theorem ggX4_extreme_X4_tells : GoodIn wsX4_extreme wsX4_tells := goodIn_r _ [60, 12, 61, 62, 63, 64, 65, 66, 67, 68, 69, 70, 71] (by decide +kernel) (by decide +kernel)
set_option maxRecDepth 20000 in
theorem gX4_extreme_X4_tells : GoodIn wsX4_extreme (wsV RX4 38 RX4 yX4_tells wsX4_tells) := goodIn_app (goodIn_of _ (by decide +kernel)) ggX4_extreme_X4_tells
theorem dX4_extreme_0 : decode cX4_extreme 0 = .ok (.iload_n 1, 1) := by decide +kernel
theorem dX4_extreme_1 : decode cX4_extreme 1 = .ok (.invokestatic 46, 3) := by decide +kernel
theorem dX4_extreme_4 : decode cX4_extreme 4 = .ok (.ifCond .ne 9, 3) := by decide +kernel
theorem dX4_extreme_7 : decode cX4_extreme 7 = .ok (.aload_n 0, 1) := by decide +kernel
theorem dX4_extreme_8 : decode cX4_extreme 8 = .ok (.iconst 1, 1) := by decide +kernel
theorem dX4_extreme_9 : decode cX4_extreme 9 = .ok (.invokevirtual 79, 3) := by decide +kernel
theorem dX4_extreme_12 : decode cX4_extreme 12 = .ok (.ireturn, 1) := by decide +kernel
theorem dX4_extreme_13 : decode cX4_extreme 13 = .ok (.iload_n 2, 1) := by decide +kernel
theorem dX4_extreme_14 : decode cX4_extreme 14 = .ok (.iload_n 3, 1) := by decide +kernel
theorem dX4_extreme_15 : decode cX4_extreme 15 = .ok (.invokestatic 140, 3) := by decide +kernel
theorem dX4_extreme_18 : decode cX4_extreme 18 = .ok (.ifCond .eq 29, 3) := by decide +kernel
theorem dX4_extreme_21 : decode cX4_extreme 21 = .ok (.iload 4, 2) := by decide +kernel
theorem dX4_extreme_23 : decode cX4_extreme 23 = .ok (.iconst 0, 1) := by decide +kernel
theorem dX4_extreme_24 : decode cX4_extreme 24 = .ok (.iconst 4, 1) := by decide +kernel
theorem dX4_extreme_25 : decode cX4_extreme 25 = .ok (.invokestatic 42, 3) := by decide +kernel
theorem dX4_extreme_28 : decode cX4_extreme 28 = .ok (.ifCond .eq 19, 3) := by decide +kernel
theorem dX4_extreme_31 : decode cX4_extreme 31 = .ok (.aload_n 0, 1) := by decide +kernel
theorem dX4_extreme_32 : decode cX4_extreme 32 = .ok (.aload_n 0, 1) := by decide +kernel
theorem dX4_extreme_33 : decode cX4_extreme 33 = .ok (.iload_n 1, 1) := by decide +kernel
theorem dX4_extreme_34 : decode cX4_extreme 34 = .ok (.iload_n 2, 1) := by decide +kernel
theorem dX4_extreme_35 : decode cX4_extreme 35 = .ok (.iload_n 3, 1) := by decide +kernel
theorem dX4_extreme_36 : decode cX4_extreme 36 = .ok (.iload 4, 2) := by decide +kernel
theorem dX4_extreme_38 : decode cX4_extreme 38 = .ok (.invokevirtual 147, 3) := by decide +kernel
theorem dX4_extreme_41 : decode cX4_extreme 41 = .ok (.invokevirtual 38, 3) := by decide +kernel
theorem dX4_extreme_44 : decode cX4_extreme 44 = .ok (.goto 8, 3) := by decide +kernel
theorem dX4_extreme_47 : decode cX4_extreme 47 = .ok (.aload_n 0, 1) := by decide +kernel
theorem dX4_extreme_48 : decode cX4_extreme 48 = .ok (.iconst 2, 1) := by decide +kernel
theorem dX4_extreme_49 : decode cX4_extreme 49 = .ok (.invokevirtual 79, 3) := by decide +kernel
theorem dX4_extreme_52 : decode cX4_extreme 52 = .ok (.ireturn, 1) := by decide +kernel
set_option maxRecDepth 20000 in
theorem ggX4_crossings_X4_isCurve : GoodIn wsX4_crossings wsX4_isCurve := goodIn_r _ [6, 7, 8, 5, 9] (by decide +kernel) (by decide +kernel)
set_option maxRecDepth 20000 in
theorem gX4_crossings_X4_isCurve : GoodIn wsX4_crossings (va_wsS RX4 46 yX4_isCurve wsX4_isCurve) := goodIn_app (goodIn_of _ (by decide +kernel)) ggX4_crossings_X4_isCurve
set_option maxRecDepth 20000 in
theorem ggX4_crossings_X4_fails : GoodIn wsX4_crossings wsX4_fails := goodIn_r _ [13, 14, 45, 46, 47, 48, 49, 50, 51, 52, 53, 54, 55] (by decide +kernel) (by decide +kernel)
set_option maxRecDepth 20000 in
theorem gX4_crossings_X4_fails : GoodIn wsX4_crossings (wsV RX4 79 RX4 yX4_fails wsX4_fails) := goodIn_app (goodIn_of _ (by decide +kernel)) ggX4_crossings_X4_fails
set_option maxRecDepth 20000 in
theorem ggX4_crossings_X4_in : GoodIn wsX4_crossings wsX4_in := goodIn_r _ [9] (by decide +kernel) (by decide +kernel)
set_option maxRecDepth 20000 in
theorem gX4_crossings_X4_in : GoodIn wsX4_crossings (va_wsS RX4 42 yX4_in wsX4_in) := goodIn_app (goodIn_of _ (by decide +kernel)) ggX4_crossings_X4_in
set_option maxRecDepth 20000 in
theorem ggX4_crossings_X4_valueAt : GoodIn wsX4_crossings wsX4_valueAt := goodIn_r _ [18, 19, 20, 21, 22, 23, 24, 25, 26, 27, 5, 28, 29, 30, 31, 32, 33, 34, 35, 36, 37, 38, 39, 40, 45, 46, 47, 48, 49, 50, 51, 52, 53, 54, 55] (by decide +kernel) (by decide +kernel)
set_option maxRecDepth 20000 in
theorem gX4_crossings_X4_valueAt : GoodIn wsX4_crossings (wsV RX4 76 RX4 yX4_valueAt wsX4_valueAt) := goodIn_app (goodIn_of _ (by decide +kernel)) ggX4_crossings_X4_valueAt
set_option maxRecDepth 20000 in
theorem ggX4_crossings_X4_tells : GoodIn wsX4_crossings wsX4_tells := goodIn_r _ [44, 14, 45, 46, 47, 48, 49, 50, 51, 52, 53, 54, 55] (by decide +kernel) (by decide +kernel)
set_option maxRecDepth 20000 in
theorem gX4_crossings_X4_tells : GoodIn wsX4_crossings (wsV RX4 38 RX4 yX4_tells wsX4_tells) := goodIn_app (goodIn_of _ (by decide +kernel)) ggX4_crossings_X4_tells
theorem dX4_crossings_0 : decode cX4_crossings 0 = .ok (.iload_n 1, 1) := by decide +kernel
theorem dX4_crossings_1 : decode cX4_crossings 1 = .ok (.invokestatic 46, 3) := by decide +kernel
theorem dX4_crossings_4 : decode cX4_crossings 4 = .ok (.ifCond .ne 9, 3) := by decide +kernel
theorem dX4_crossings_7 : decode cX4_crossings 7 = .ok (.aload_n 0, 1) := by decide +kernel
theorem dX4_crossings_8 : decode cX4_crossings 8 = .ok (.iconst 1, 1) := by decide +kernel
theorem dX4_crossings_9 : decode cX4_crossings 9 = .ok (.invokevirtual 79, 3) := by decide +kernel
theorem dX4_crossings_12 : decode cX4_crossings 12 = .ok (.ireturn, 1) := by decide +kernel
theorem dX4_crossings_13 : decode cX4_crossings 13 = .ok (.iload_n 2, 1) := by decide +kernel
theorem dX4_crossings_14 : decode cX4_crossings 14 = .ok (.ldc 109, 2) := by decide +kernel
theorem dX4_crossings_16 : decode cX4_crossings 16 = .ok (.ldc 110, 2) := by decide +kernel
theorem dX4_crossings_18 : decode cX4_crossings 18 = .ok (.invokestatic 42, 3) := by decide +kernel
theorem dX4_crossings_21 : decode cX4_crossings 21 = .ok (.ifCond .ne 9, 3) := by decide +kernel
theorem dX4_crossings_24 : decode cX4_crossings 24 = .ok (.aload_n 0, 1) := by decide +kernel
theorem dX4_crossings_25 : decode cX4_crossings 25 = .ok (.iconst 2, 1) := by decide +kernel
theorem dX4_crossings_26 : decode cX4_crossings 26 = .ok (.invokevirtual 79, 3) := by decide +kernel
theorem dX4_crossings_29 : decode cX4_crossings 29 = .ok (.ireturn, 1) := by decide +kernel
theorem dX4_crossings_30 : decode cX4_crossings 30 = .ok (.iconst 0, 1) := by decide +kernel
theorem dX4_crossings_31 : decode cX4_crossings 31 = .ok (.istore_n 3, 1) := by decide +kernel
theorem dX4_crossings_32 : decode cX4_crossings 32 = .ok (.iconst 1, 1) := by decide +kernel
theorem dX4_crossings_33 : decode cX4_crossings 33 = .ok (.istore 4, 2) := by decide +kernel
theorem dX4_crossings_35 : decode cX4_crossings 35 = .ok (.iload 4, 2) := by decide +kernel
theorem dX4_crossings_37 : decode cX4_crossings 37 = .ok (.sipush 999, 3) := by decide +kernel
theorem dX4_crossings_40 : decode cX4_crossings 40 = .ok (.if_icmp .gt 54, 3) := by decide +kernel
theorem dX4_crossings_43 : decode cX4_crossings 43 = .ok (.iload_n 3, 1) := by decide +kernel
theorem dX4_crossings_44 : decode cX4_crossings 44 = .ok (.aload_n 0, 1) := by decide +kernel
theorem dX4_crossings_45 : decode cX4_crossings 45 = .ok (.iload_n 1, 1) := by decide +kernel
theorem dX4_crossings_46 : decode cX4_crossings 46 = .ok (.iload 4, 2) := by decide +kernel
theorem dX4_crossings_48 : decode cX4_crossings 48 = .ok (.invokevirtual 76, 3) := by decide +kernel
theorem dX4_crossings_51 : decode cX4_crossings 51 = .ok (.iload_n 2, 1) := by decide +kernel
theorem dX4_crossings_52 : decode cX4_crossings 52 = .ok (.if_icmp .lt 7, 3) := by decide +kernel
theorem dX4_crossings_55 : decode cX4_crossings 55 = .ok (.iconst 1, 1) := by decide +kernel
theorem dX4_crossings_56 : decode cX4_crossings 56 = .ok (.goto 4, 3) := by decide +kernel
theorem dX4_crossings_59 : decode cX4_crossings 59 = .ok (.iconst 0, 1) := by decide +kernel
theorem dX4_crossings_60 : decode cX4_crossings 60 = .ok (.aload_n 0, 1) := by decide +kernel
theorem dX4_crossings_61 : decode cX4_crossings 61 = .ok (.iload_n 1, 1) := by decide +kernel
theorem dX4_crossings_62 : decode cX4_crossings 62 = .ok (.iload 4, 2) := by decide +kernel
theorem dX4_crossings_64 : decode cX4_crossings 64 = .ok (.iconst 1, 1) := by decide +kernel
theorem dX4_crossings_65 : decode cX4_crossings 65 = .ok (.isub, 1) := by decide +kernel
theorem dX4_crossings_66 : decode cX4_crossings 66 = .ok (.invokevirtual 76, 3) := by decide +kernel
theorem dX4_crossings_69 : decode cX4_crossings 69 = .ok (.iload_n 2, 1) := by decide +kernel
theorem dX4_crossings_70 : decode cX4_crossings 70 = .ok (.if_icmp .lt 7, 3) := by decide +kernel
theorem dX4_crossings_73 : decode cX4_crossings 73 = .ok (.iconst 1, 1) := by decide +kernel
theorem dX4_crossings_74 : decode cX4_crossings 74 = .ok (.goto 4, 3) := by decide +kernel
theorem dX4_crossings_77 : decode cX4_crossings 77 = .ok (.iconst 0, 1) := by decide +kernel
theorem dX4_crossings_78 : decode cX4_crossings 78 = .ok (.if_icmp .ne 7, 3) := by decide +kernel
theorem dX4_crossings_81 : decode cX4_crossings 81 = .ok (.iconst 0, 1) := by decide +kernel
theorem dX4_crossings_82 : decode cX4_crossings 82 = .ok (.goto 4, 3) := by decide +kernel
theorem dX4_crossings_85 : decode cX4_crossings 85 = .ok (.iconst 1, 1) := by decide +kernel
theorem dX4_crossings_86 : decode cX4_crossings 86 = .ok (.iadd, 1) := by decide +kernel
theorem dX4_crossings_87 : decode cX4_crossings 87 = .ok (.istore_n 3, 1) := by decide +kernel
theorem dX4_crossings_88 : decode cX4_crossings 88 = .ok (.iinc 4 1, 3) := by decide +kernel
theorem dX4_crossings_91 : decode cX4_crossings 91 = .ok (.goto (-56), 3) := by decide +kernel
theorem dX4_crossings_94 : decode cX4_crossings 94 = .ok (.aload_n 0, 1) := by decide +kernel
theorem dX4_crossings_95 : decode cX4_crossings 95 = .ok (.iload_n 3, 1) := by decide +kernel
theorem dX4_crossings_96 : decode cX4_crossings 96 = .ok (.invokevirtual 38, 3) := by decide +kernel
theorem dX4_crossings_99 : decode cX4_crossings 99 = .ok (.ireturn, 1) := by decide +kernel
set_option maxRecDepth 20000 in
theorem ggX4_difference_X4_isCurve : GoodIn wsX4_difference wsX4_isCurve := goodIn_r _ [4, 5, 6, 3, 7] (by decide +kernel) (by decide +kernel)
set_option maxRecDepth 20000 in
theorem gX4_difference_X4_isCurve : GoodIn wsX4_difference (va_wsS RX4 46 yX4_isCurve wsX4_isCurve) := goodIn_app (goodIn_of _ (by decide +kernel)) ggX4_difference_X4_isCurve
set_option maxRecDepth 20000 in
theorem ggX4_difference_X4_fails : GoodIn wsX4_difference wsX4_fails := goodIn_r _ [11, 12, 46, 47, 48, 49, 50, 51, 52, 53, 54, 55, 56] (by decide +kernel) (by decide +kernel)
set_option maxRecDepth 20000 in
theorem gX4_difference_X4_fails : GoodIn wsX4_difference (wsV RX4 79 RX4 yX4_fails wsX4_fails) := goodIn_app (goodIn_of _ (by decide +kernel)) ggX4_difference_X4_fails
set_option maxRecDepth 20000 in
theorem ggX4_difference_X4_valueAt : GoodIn wsX4_difference wsX4_valueAt := goodIn_r _ [16, 17, 18, 19, 20, 21, 22, 23, 24, 25, 3, 26, 27, 28, 29, 30, 31, 32, 33, 34, 35, 36, 37, 38, 46, 47, 48, 49, 50, 51, 52, 53, 54, 55, 56] (by decide +kernel) (by decide +kernel)
set_option maxRecDepth 20000 in
theorem gX4_difference_X4_valueAt : GoodIn wsX4_difference (wsV RX4 76 RX4 yX4_valueAt wsX4_valueAt) := goodIn_app (goodIn_of _ (by decide +kernel)) ggX4_difference_X4_valueAt
set_option maxRecDepth 20000 in
theorem ggX4_difference_X4_apart : GoodIn wsX4_difference wsX4_apart := goodIn_r _ [41] (by decide +kernel) (by decide +kernel)
set_option maxRecDepth 20000 in
theorem gX4_difference_X4_apart : GoodIn wsX4_difference (va_wsS RX4 124 yX4_apart wsX4_apart) := goodIn_app (goodIn_of _ (by decide +kernel)) ggX4_difference_X4_apart
set_option maxRecDepth 20000 in
theorem ggX4_difference_X4_tells : GoodIn wsX4_difference wsX4_tells := goodIn_r _ [45, 12, 46, 47, 48, 49, 50, 51, 52, 53, 54, 55, 56] (by decide +kernel) (by decide +kernel)
set_option maxRecDepth 20000 in
theorem gX4_difference_X4_tells : GoodIn wsX4_difference (wsV RX4 38 RX4 yX4_tells wsX4_tells) := goodIn_app (goodIn_of _ (by decide +kernel)) ggX4_difference_X4_tells
theorem dX4_difference_0 : decode cX4_difference 0 = .ok (.iload_n 1, 1) := by decide +kernel
theorem dX4_difference_1 : decode cX4_difference 1 = .ok (.invokestatic 46, 3) := by decide +kernel
theorem dX4_difference_4 : decode cX4_difference 4 = .ok (.ifCond .eq 10, 3) := by decide +kernel
theorem dX4_difference_7 : decode cX4_difference 7 = .ok (.iload_n 2, 1) := by decide +kernel
theorem dX4_difference_8 : decode cX4_difference 8 = .ok (.invokestatic 46, 3) := by decide +kernel
theorem dX4_difference_11 : decode cX4_difference 11 = .ok (.ifCond .ne 9, 3) := by decide +kernel
theorem dX4_difference_14 : decode cX4_difference 14 = .ok (.aload_n 0, 1) := by decide +kernel
theorem dX4_difference_15 : decode cX4_difference 15 = .ok (.iconst 1, 1) := by decide +kernel
theorem dX4_difference_16 : decode cX4_difference 16 = .ok (.invokevirtual 79, 3) := by decide +kernel
theorem dX4_difference_19 : decode cX4_difference 19 = .ok (.ireturn, 1) := by decide +kernel
theorem dX4_difference_20 : decode cX4_difference 20 = .ok (.iconst 0, 1) := by decide +kernel
theorem dX4_difference_21 : decode cX4_difference 21 = .ok (.istore_n 3, 1) := by decide +kernel
theorem dX4_difference_22 : decode cX4_difference 22 = .ok (.iconst 0, 1) := by decide +kernel
theorem dX4_difference_23 : decode cX4_difference 23 = .ok (.istore 4, 2) := by decide +kernel
theorem dX4_difference_25 : decode cX4_difference 25 = .ok (.iload 4, 2) := by decide +kernel
theorem dX4_difference_27 : decode cX4_difference 27 = .ok (.sipush 999, 3) := by decide +kernel
theorem dX4_difference_30 : decode cX4_difference 30 = .ok (.if_icmp .gt 41, 3) := by decide +kernel
theorem dX4_difference_33 : decode cX4_difference 33 = .ok (.aload_n 0, 1) := by decide +kernel
theorem dX4_difference_34 : decode cX4_difference 34 = .ok (.iload_n 1, 1) := by decide +kernel
theorem dX4_difference_35 : decode cX4_difference 35 = .ok (.iload 4, 2) := by decide +kernel
theorem dX4_difference_37 : decode cX4_difference 37 = .ok (.invokevirtual 76, 3) := by decide +kernel
theorem dX4_difference_40 : decode cX4_difference 40 = .ok (.aload_n 0, 1) := by decide +kernel
theorem dX4_difference_41 : decode cX4_difference 41 = .ok (.iload_n 2, 1) := by decide +kernel
theorem dX4_difference_42 : decode cX4_difference 42 = .ok (.iload 4, 2) := by decide +kernel
theorem dX4_difference_44 : decode cX4_difference 44 = .ok (.invokevirtual 76, 3) := by decide +kernel
theorem dX4_difference_47 : decode cX4_difference 47 = .ok (.invokestatic 124, 3) := by decide +kernel
theorem dX4_difference_50 : decode cX4_difference 50 = .ok (.istore 5, 2) := by decide +kernel
theorem dX4_difference_52 : decode cX4_difference 52 = .ok (.iload 5, 2) := by decide +kernel
theorem dX4_difference_54 : decode cX4_difference 54 = .ok (.iload_n 3, 1) := by decide +kernel
theorem dX4_difference_55 : decode cX4_difference 55 = .ok (.if_icmp .le 8, 3) := by decide +kernel
theorem dX4_difference_58 : decode cX4_difference 58 = .ok (.iload 5, 2) := by decide +kernel
theorem dX4_difference_60 : decode cX4_difference 60 = .ok (.goto 4, 3) := by decide +kernel
theorem dX4_difference_63 : decode cX4_difference 63 = .ok (.iload_n 3, 1) := by decide +kernel
theorem dX4_difference_64 : decode cX4_difference 64 = .ok (.istore_n 3, 1) := by decide +kernel
theorem dX4_difference_65 : decode cX4_difference 65 = .ok (.iinc 4 1, 3) := by decide +kernel
theorem dX4_difference_68 : decode cX4_difference 68 = .ok (.goto (-43), 3) := by decide +kernel
theorem dX4_difference_71 : decode cX4_difference 71 = .ok (.aload_n 0, 1) := by decide +kernel
theorem dX4_difference_72 : decode cX4_difference 72 = .ok (.iload_n 3, 1) := by decide +kernel
theorem dX4_difference_73 : decode cX4_difference 73 = .ok (.invokevirtual 38, 3) := by decide +kernel
theorem dX4_difference_76 : decode cX4_difference 76 = .ok (.ireturn, 1) := by decide +kernel
set_option maxRecDepth 20000 in
theorem ggX4_mean_X4_isCurve : GoodIn wsX4_mean wsX4_isCurve := goodIn_r _ [6, 7, 8, 5, 9] (by decide +kernel) (by decide +kernel)
set_option maxRecDepth 20000 in
theorem gX4_mean_X4_isCurve : GoodIn wsX4_mean (va_wsS RX4 46 yX4_isCurve wsX4_isCurve) := goodIn_app (goodIn_of _ (by decide +kernel)) ggX4_mean_X4_isCurve
set_option maxRecDepth 20000 in
theorem ggX4_mean_X4_fails : GoodIn wsX4_mean wsX4_fails := goodIn_r _ [13, 1, 44, 45, 46, 47, 48, 49, 50, 51, 52, 53, 54] (by decide +kernel) (by decide +kernel)
set_option maxRecDepth 20000 in
theorem gX4_mean_X4_fails : GoodIn wsX4_mean (wsV RX4 79 RX4 yX4_fails wsX4_fails) := goodIn_app (goodIn_of _ (by decide +kernel)) ggX4_mean_X4_fails
set_option maxRecDepth 20000 in
theorem ggX4_mean_X4_sumOf : GoodIn wsX4_mean wsX4_sumOf := goodIn_r _ [17, 18, 19, 20, 5, 21, 22, 23, 24, 25, 26, 27, 28, 29, 30, 31, 32, 33, 34, 35, 36, 37, 38, 39, 40, 41, 42, 43, 44, 45, 46, 47, 48, 49, 50, 51, 52, 53, 54] (by decide +kernel) (by decide +kernel)
set_option maxRecDepth 20000 in
theorem gX4_mean_X4_sumOf : GoodIn wsX4_mean (wsV RX4 143 RX4 yX4_sumOf wsX4_sumOf) := goodIn_app (goodIn_of _ (by decide +kernel)) ggX4_mean_X4_sumOf
theorem dX4_mean_0 : decode cX4_mean 0 = .ok (.iload_n 1, 1) := by decide +kernel
theorem dX4_mean_1 : decode cX4_mean 1 = .ok (.invokestatic 46, 3) := by decide +kernel
theorem dX4_mean_4 : decode cX4_mean 4 = .ok (.ifCond .ne 10, 3) := by decide +kernel
theorem dX4_mean_7 : decode cX4_mean 7 = .ok (.aload_n 0, 1) := by decide +kernel
theorem dX4_mean_8 : decode cX4_mean 8 = .ok (.iconst 1, 1) := by decide +kernel
theorem dX4_mean_9 : decode cX4_mean 9 = .ok (.invokevirtual 79, 3) := by decide +kernel
theorem dX4_mean_12 : decode cX4_mean 12 = .ok (.i2d, 1) := by decide +kernel
theorem dX4_mean_13 : decode cX4_mean 13 = .ok (.dreturn, 1) := by decide +kernel
theorem dX4_mean_14 : decode cX4_mean 14 = .ok (.aload_n 0, 1) := by decide +kernel
theorem dX4_mean_15 : decode cX4_mean 15 = .ok (.iconst 0, 1) := by decide +kernel
theorem dX4_mean_16 : decode cX4_mean 16 = .ok (.putfield 32, 3) := by decide +kernel
theorem dX4_mean_19 : decode cX4_mean 19 = .ok (.aload_n 0, 1) := by decide +kernel
theorem dX4_mean_20 : decode cX4_mean 20 = .ok (.iload_n 1, 1) := by decide +kernel
theorem dX4_mean_21 : decode cX4_mean 21 = .ok (.iconst 0, 1) := by decide +kernel
theorem dX4_mean_22 : decode cX4_mean 22 = .ok (.sipush 999, 3) := by decide +kernel
theorem dX4_mean_25 : decode cX4_mean 25 = .ok (.invokevirtual 143, 3) := by decide +kernel
theorem dX4_mean_28 : decode cX4_mean 28 = .ok (.l2d, 1) := by decide +kernel
theorem dX4_mean_29 : decode cX4_mean 29 = .ok (.ldc2_w 150, 3) := by decide +kernel
theorem dX4_mean_32 : decode cX4_mean 32 = .ok (.ddiv, 1) := by decide +kernel
theorem dX4_mean_33 : decode cX4_mean 33 = .ok (.dreturn, 1) := by decide +kernel
set_option maxRecDepth 20000 in
theorem ggX4_error_X4_isKey : GoodIn wsX4_error wsX4_isKey := goodIn_r _ [5, 6, 7, 4, 8, 9, 10, 11, 12, 13, 14, 15, 16, 64, 65, 66, 67, 68, 69, 70, 71, 72, 73, 74] (by decide +kernel) (by decide +kernel)
set_option maxRecDepth 20000 in
theorem gX4_error_X4_isKey : GoodIn wsX4_error (wsV RX4 101 RX4 yX4_isKey wsX4_isKey) := goodIn_app (goodIn_of _ (by decide +kernel)) ggX4_error_X4_isKey
set_option maxRecDepth 20000 in
theorem ggX4_error_X4_fails : GoodIn wsX4_error wsX4_fails := goodIn_r _ [20, 21, 64, 65, 66, 67, 68, 69, 70, 71, 72, 73, 74] (by decide +kernel) (by decide +kernel)
set_option maxRecDepth 20000 in
theorem gX4_error_X4_fails : GoodIn wsX4_error (wsV RX4 79 RX4 yX4_fails wsX4_fails) := goodIn_app (goodIn_of _ (by decide +kernel)) ggX4_error_X4_fails
set_option maxRecDepth 20000 in
theorem ggX4_error_X4_bakes : GoodIn wsX4_error wsX4_bakes := goodIn_r _ [25, 26, 27, 28, 29, 4, 30, 31, 32, 33, 34, 35, 36, 12, 13, 14, 15, 16, 37, 38, 39, 40, 41, 42, 43, 44, 45, 46, 47, 64, 65, 66, 67, 68, 69, 70, 71, 72, 73, 74] (by decide +kernel) (by decide +kernel)
set_option maxRecDepth 20000 in
theorem gX4_error_X4_bakes : GoodIn wsX4_error (wsV RX4 127 RX4 yX4_bakes wsX4_bakes) := goodIn_app (goodIn_of _ (by decide +kernel)) ggX4_error_X4_bakes
set_option maxRecDepth 20000 in
theorem ggX4_error_X4_errorOf : GoodIn wsX4_error wsX4_errorOf := goodIn_r _ [51, 52, 16, 26, 37, 38, 39, 4, 40, 41, 42, 43, 12, 13, 14, 15, 53, 54, 55, 56, 27, 28, 29, 30, 31, 32, 33, 34, 35, 36, 44, 45, 46, 47, 57, 58, 59, 64, 65, 66, 67, 68, 69, 70, 71, 72, 73, 74] (by decide +kernel) (by decide +kernel)
set_option maxRecDepth 20000 in
theorem gX4_error_X4_errorOf : GoodIn wsX4_error (wsV RX4 131 RX4 yX4_errorOf wsX4_errorOf) := goodIn_app (goodIn_of _ (by decide +kernel)) ggX4_error_X4_errorOf
set_option maxRecDepth 20000 in
theorem ggX4_error_X4_tells : GoodIn wsX4_error wsX4_tells := goodIn_r _ [63, 21, 64, 65, 66, 67, 68, 69, 70, 71, 72, 73, 74] (by decide +kernel) (by decide +kernel)
set_option maxRecDepth 20000 in
theorem gX4_error_X4_tells : GoodIn wsX4_error (wsV RX4 38 RX4 yX4_tells wsX4_tells) := goodIn_app (goodIn_of _ (by decide +kernel)) ggX4_error_X4_tells
theorem dX4_error_0 : decode cX4_error 0 = .ok (.aload_n 0, 1) := by decide +kernel
theorem dX4_error_1 : decode cX4_error 1 = .ok (.iload_n 1, 1) := by decide +kernel
theorem dX4_error_2 : decode cX4_error 2 = .ok (.iload_n 2, 1) := by decide +kernel
theorem dX4_error_3 : decode cX4_error 3 = .ok (.invokevirtual 101, 3) := by decide +kernel
theorem dX4_error_6 : decode cX4_error 6 = .ok (.ifCond .ne 9, 3) := by decide +kernel
theorem dX4_error_9 : decode cX4_error 9 = .ok (.aload_n 0, 1) := by decide +kernel
theorem dX4_error_10 : decode cX4_error 10 = .ok (.iconst 1, 1) := by decide +kernel
theorem dX4_error_11 : decode cX4_error 11 = .ok (.invokevirtual 79, 3) := by decide +kernel
theorem dX4_error_14 : decode cX4_error 14 = .ok (.ireturn, 1) := by decide +kernel
theorem dX4_error_15 : decode cX4_error 15 = .ok (.aload_n 0, 1) := by decide +kernel
theorem dX4_error_16 : decode cX4_error 16 = .ok (.iload_n 1, 1) := by decide +kernel
theorem dX4_error_17 : decode cX4_error 17 = .ok (.invokevirtual 127, 3) := by decide +kernel
theorem dX4_error_20 : decode cX4_error 20 = .ok (.aload_n 0, 1) := by decide +kernel
theorem dX4_error_21 : decode cX4_error 21 = .ok (.aload_n 0, 1) := by decide +kernel
theorem dX4_error_22 : decode cX4_error 22 = .ok (.iload_n 1, 1) := by decide +kernel
theorem dX4_error_23 : decode cX4_error 23 = .ok (.iload_n 2, 1) := by decide +kernel
theorem dX4_error_24 : decode cX4_error 24 = .ok (.invokevirtual 131, 3) := by decide +kernel
theorem dX4_error_27 : decode cX4_error 27 = .ok (.invokevirtual 38, 3) := by decide +kernel
theorem dX4_error_30 : decode cX4_error 30 = .ok (.ireturn, 1) := by decide +kernel
set_option maxRecDepth 20000 in
theorem ggX4_greatestStretch_X4_isCurve : GoodIn wsX4_greatestStretch wsX4_isCurve := goodIn_r _ [4, 5, 6, 3, 7] (by decide +kernel) (by decide +kernel)
set_option maxRecDepth 20000 in
theorem gX4_greatestStretch_X4_isCurve : GoodIn wsX4_greatestStretch (va_wsS RX4 46 yX4_isCurve wsX4_isCurve) := goodIn_app (goodIn_of _ (by decide +kernel)) ggX4_greatestStretch_X4_isCurve
set_option maxRecDepth 20000 in
theorem ggX4_greatestStretch_X4_fails : GoodIn wsX4_greatestStretch wsX4_fails := goodIn_r _ [11, 12, 39, 40, 41, 42, 43, 44, 45, 46, 47, 48, 49] (by decide +kernel) (by decide +kernel)
set_option maxRecDepth 20000 in
theorem gX4_greatestStretch_X4_fails : GoodIn wsX4_greatestStretch (wsV RX4 79 RX4 yX4_fails wsX4_fails) := goodIn_app (goodIn_of _ (by decide +kernel)) ggX4_greatestStretch_X4_fails
set_option maxRecDepth 20000 in
theorem ggX4_greatestStretch_X4_isSpan : GoodIn wsX4_greatestStretch wsX4_isSpan := goodIn_r _ [15, 5, 6, 3, 7] (by decide +kernel) (by decide +kernel)
set_option maxRecDepth 20000 in
theorem gX4_greatestStretch_X4_isSpan : GoodIn wsX4_greatestStretch (va_wsS RX4 114 yX4_isSpan wsX4_isSpan) := goodIn_app (goodIn_of _ (by decide +kernel)) ggX4_greatestStretch_X4_isSpan
set_option maxRecDepth 20000 in
theorem ggX4_greatestStretch_X4_mayStretch : GoodIn wsX4_greatestStretch wsX4_mayStretch := goodIn_r _ [19, 20, 21, 22, 3, 23, 24, 25, 26, 27, 28, 29, 30, 31, 32, 33, 34, 39, 40, 41, 42, 43, 44, 45, 46, 47, 48, 49] (by decide +kernel) (by decide +kernel)
set_option maxRecDepth 20000 in
theorem gX4_greatestStretch_X4_mayStretch : GoodIn wsX4_greatestStretch (wsV RX4 117 RX4 yX4_mayStretch wsX4_mayStretch) := goodIn_app (goodIn_of _ (by decide +kernel)) ggX4_greatestStretch_X4_mayStretch
set_option maxRecDepth 20000 in
theorem ggX4_greatestStretch_X4_tells : GoodIn wsX4_greatestStretch wsX4_tells := goodIn_r _ [38, 12, 39, 40, 41, 42, 43, 44, 45, 46, 47, 48, 49] (by decide +kernel) (by decide +kernel)
set_option maxRecDepth 20000 in
theorem gX4_greatestStretch_X4_tells : GoodIn wsX4_greatestStretch (wsV RX4 38 RX4 yX4_tells wsX4_tells) := goodIn_app (goodIn_of _ (by decide +kernel)) ggX4_greatestStretch_X4_tells
theorem dX4_greatestStretch_0 : decode cX4_greatestStretch 0 = .ok (.iload_n 1, 1) := by decide +kernel
theorem dX4_greatestStretch_1 : decode cX4_greatestStretch 1 = .ok (.invokestatic 46, 3) := by decide +kernel
theorem dX4_greatestStretch_4 : decode cX4_greatestStretch 4 = .ok (.ifCond .ne 9, 3) := by decide +kernel
theorem dX4_greatestStretch_7 : decode cX4_greatestStretch 7 = .ok (.aload_n 0, 1) := by decide +kernel
theorem dX4_greatestStretch_8 : decode cX4_greatestStretch 8 = .ok (.iconst 1, 1) := by decide +kernel
theorem dX4_greatestStretch_9 : decode cX4_greatestStretch 9 = .ok (.invokevirtual 79, 3) := by decide +kernel
theorem dX4_greatestStretch_12 : decode cX4_greatestStretch 12 = .ok (.ireturn, 1) := by decide +kernel
theorem dX4_greatestStretch_13 : decode cX4_greatestStretch 13 = .ok (.iload_n 2, 1) := by decide +kernel
theorem dX4_greatestStretch_14 : decode cX4_greatestStretch 14 = .ok (.iload_n 3, 1) := by decide +kernel
theorem dX4_greatestStretch_15 : decode cX4_greatestStretch 15 = .ok (.invokestatic 114, 3) := by decide +kernel
theorem dX4_greatestStretch_18 : decode cX4_greatestStretch 18 = .ok (.ifCond .ne 9, 3) := by decide +kernel
theorem dX4_greatestStretch_21 : decode cX4_greatestStretch 21 = .ok (.aload_n 0, 1) := by decide +kernel
theorem dX4_greatestStretch_22 : decode cX4_greatestStretch 22 = .ok (.iconst 2, 1) := by decide +kernel
theorem dX4_greatestStretch_23 : decode cX4_greatestStretch 23 = .ok (.invokevirtual 79, 3) := by decide +kernel
theorem dX4_greatestStretch_26 : decode cX4_greatestStretch 26 = .ok (.ireturn, 1) := by decide +kernel
theorem dX4_greatestStretch_27 : decode cX4_greatestStretch 27 = .ok (.sipush 500, 3) := by decide +kernel
theorem dX4_greatestStretch_30 : decode cX4_greatestStretch 30 = .ok (.istore 4, 2) := by decide +kernel
theorem dX4_greatestStretch_32 : decode cX4_greatestStretch 32 = .ok (.iload 4, 2) := by decide +kernel
theorem dX4_greatestStretch_34 : decode cX4_greatestStretch 34 = .ok (.bipush 10, 2) := by decide +kernel
theorem dX4_greatestStretch_36 : decode cX4_greatestStretch 36 = .ok (.if_icmp .lt 21, 3) := by decide +kernel
theorem dX4_greatestStretch_39 : decode cX4_greatestStretch 39 = .ok (.aload_n 0, 1) := by decide +kernel
theorem dX4_greatestStretch_40 : decode cX4_greatestStretch 40 = .ok (.iload_n 1, 1) := by decide +kernel
theorem dX4_greatestStretch_41 : decode cX4_greatestStretch 41 = .ok (.iload_n 2, 1) := by decide +kernel
theorem dX4_greatestStretch_42 : decode cX4_greatestStretch 42 = .ok (.iload_n 3, 1) := by decide +kernel
theorem dX4_greatestStretch_43 : decode cX4_greatestStretch 43 = .ok (.iload 4, 2) := by decide +kernel
theorem dX4_greatestStretch_45 : decode cX4_greatestStretch 45 = .ok (.invokevirtual 117, 3) := by decide +kernel
theorem dX4_greatestStretch_48 : decode cX4_greatestStretch 48 = .ok (.ifCond .ne 9, 3) := by decide +kernel
theorem dX4_greatestStretch_51 : decode cX4_greatestStretch 51 = .ok (.iinc 4 (-10), 3) := by decide +kernel
theorem dX4_greatestStretch_54 : decode cX4_greatestStretch 54 = .ok (.goto (-22), 3) := by decide +kernel
theorem dX4_greatestStretch_57 : decode cX4_greatestStretch 57 = .ok (.aload_n 0, 1) := by decide +kernel
theorem dX4_greatestStretch_58 : decode cX4_greatestStretch 58 = .ok (.iload 4, 2) := by decide +kernel
theorem dX4_greatestStretch_60 : decode cX4_greatestStretch 60 = .ok (.bipush 10, 2) := by decide +kernel
theorem dX4_greatestStretch_62 : decode cX4_greatestStretch 62 = .ok (.if_icmp .ge 7, 3) := by decide +kernel
theorem dX4_greatestStretch_65 : decode cX4_greatestStretch 65 = .ok (.iconst (-1), 1) := by decide +kernel
theorem dX4_greatestStretch_66 : decode cX4_greatestStretch 66 = .ok (.goto 5, 3) := by decide +kernel
theorem dX4_greatestStretch_69 : decode cX4_greatestStretch 69 = .ok (.iload 4, 2) := by decide +kernel
theorem dX4_greatestStretch_71 : decode cX4_greatestStretch 71 = .ok (.invokevirtual 38, 3) := by decide +kernel
theorem dX4_greatestStretch_74 : decode cX4_greatestStretch 74 = .ok (.ireturn, 1) := by decide +kernel
set_option maxRecDepth 20000 in
theorem ggX4_leastEase_X4_isKey : GoodIn wsX4_leastEase wsX4_isKey := goodIn_r _ [6, 7, 8, 5, 9, 10, 11, 12, 13, 14, 15, 16, 1, 51, 52, 53, 54, 55, 56, 57, 58, 59, 60, 61] (by decide +kernel) (by decide +kernel)
set_option maxRecDepth 20000 in
theorem gX4_leastEase_X4_isKey : GoodIn wsX4_leastEase (wsV RX4 101 RX4 yX4_isKey wsX4_isKey) := goodIn_app (goodIn_of _ (by decide +kernel)) ggX4_leastEase_X4_isKey
set_option maxRecDepth 20000 in
theorem ggX4_leastEase_X4_many : GoodIn wsX4_leastEase wsX4_many := goodIn_r _ [16, 1, 51, 52, 53, 54, 55, 56, 57, 58, 59, 60, 61] (by decide +kernel) (by decide +kernel)
set_option maxRecDepth 20000 in
theorem gX4_leastEase_X4_many : GoodIn wsX4_leastEase (wsV RX4 50 RX4 yX4_many wsX4_many) := goodIn_app (goodIn_of _ (by decide +kernel)) ggX4_leastEase_X4_many
set_option maxRecDepth 20000 in
theorem ggX4_leastEase_X4_fails : GoodIn wsX4_leastEase wsX4_fails := goodIn_r _ [20, 21, 51, 52, 53, 54, 55, 56, 57, 58, 59, 60, 61] (by decide +kernel) (by decide +kernel)
set_option maxRecDepth 20000 in
theorem gX4_leastEase_X4_fails : GoodIn wsX4_leastEase (wsV RX4 79 RX4 yX4_fails wsX4_fails) := goodIn_app (goodIn_of _ (by decide +kernel)) ggX4_leastEase_X4_fails
set_option maxRecDepth 20000 in
theorem ggX4_leastEase_X4_spot : GoodIn wsX4_leastEase wsX4_spot := goodIn_r _ [24] (by decide +kernel) (by decide +kernel)
set_option maxRecDepth 20000 in
theorem gX4_leastEase_X4_spot : GoodIn wsX4_leastEase (va_wsS RX4 53 yX4_spot wsX4_spot) := goodIn_app (goodIn_of _ (by decide +kernel)) ggX4_leastEase_X4_spot
set_option maxRecDepth 20000 in
theorem ggX4_leastEase_X4_of : GoodIn wsX4_leastEase wsX4_of := goodIn_r _ [28, 1, 22, 23, 5, 24, 51, 52, 53, 54, 55, 56, 57, 58, 59, 60, 61] (by decide +kernel) (by decide +kernel)
set_option maxRecDepth 20000 in
theorem gX4_leastEase_X4_of : GoodIn wsX4_leastEase (wsV RX4 57 RX4 yX4_of wsX4_of) := goodIn_app (goodIn_of _ (by decide +kernel)) ggX4_leastEase_X4_of
set_option maxRecDepth 20000 in
theorem ggX4_leastEase_X4_sumOf : GoodIn wsX4_leastEase wsX4_sumOf := goodIn_r _ [32, 33, 34, 35, 5, 36, 37, 38, 39, 40, 41, 42, 13, 14, 15, 16, 1, 25, 26, 27, 28, 22, 23, 24, 43, 44, 45, 46, 51, 52, 53, 54, 55, 56, 57, 58, 59, 60, 61] (by decide +kernel) (by decide +kernel)
set_option maxRecDepth 20000 in
theorem gX4_leastEase_X4_sumOf : GoodIn wsX4_leastEase (wsV RX4 143 RX4 yX4_sumOf wsX4_sumOf) := goodIn_app (goodIn_of _ (by decide +kernel)) ggX4_leastEase_X4_sumOf
set_option maxRecDepth 20000 in
theorem ggX4_leastEase_X4_tells : GoodIn wsX4_leastEase wsX4_tells := goodIn_r _ [50, 21, 51, 52, 53, 54, 55, 56, 57, 58, 59, 60, 61] (by decide +kernel) (by decide +kernel)
set_option maxRecDepth 20000 in
theorem gX4_leastEase_X4_tells : GoodIn wsX4_leastEase (wsV RX4 38 RX4 yX4_tells wsX4_tells) := goodIn_app (goodIn_of _ (by decide +kernel)) ggX4_leastEase_X4_tells
theorem dX4_leastEase_0 : decode cX4_leastEase 0 = .ok (.aload_n 0, 1) := by decide +kernel
theorem dX4_leastEase_1 : decode cX4_leastEase 1 = .ok (.iload_n 1, 1) := by decide +kernel
theorem dX4_leastEase_2 : decode cX4_leastEase 2 = .ok (.iload_n 2, 1) := by decide +kernel
theorem dX4_leastEase_3 : decode cX4_leastEase 3 = .ok (.invokevirtual 101, 3) := by decide +kernel
theorem dX4_leastEase_6 : decode cX4_leastEase 6 = .ok (.ifCond .eq 14, 3) := by decide +kernel
theorem dX4_leastEase_9 : decode cX4_leastEase 9 = .ok (.iload_n 2, 1) := by decide +kernel
theorem dX4_leastEase_10 : decode cX4_leastEase 10 = .ok (.aload_n 0, 1) := by decide +kernel
theorem dX4_leastEase_11 : decode cX4_leastEase 11 = .ok (.iload_n 1, 1) := by decide +kernel
theorem dX4_leastEase_12 : decode cX4_leastEase 12 = .ok (.invokevirtual 50, 3) := by decide +kernel
theorem dX4_leastEase_15 : decode cX4_leastEase 15 = .ok (.iconst 1, 1) := by decide +kernel
theorem dX4_leastEase_16 : decode cX4_leastEase 16 = .ok (.isub, 1) := by decide +kernel
theorem dX4_leastEase_17 : decode cX4_leastEase 17 = .ok (.if_icmp .ne 9, 3) := by decide +kernel
theorem dX4_leastEase_20 : decode cX4_leastEase 20 = .ok (.aload_n 0, 1) := by decide +kernel
theorem dX4_leastEase_21 : decode cX4_leastEase 21 = .ok (.iconst 1, 1) := by decide +kernel
theorem dX4_leastEase_22 : decode cX4_leastEase 22 = .ok (.invokevirtual 79, 3) := by decide +kernel
theorem dX4_leastEase_25 : decode cX4_leastEase 25 = .ok (.ireturn, 1) := by decide +kernel
theorem dX4_leastEase_26 : decode cX4_leastEase 26 = .ok (.iload_n 1, 1) := by decide +kernel
theorem dX4_leastEase_27 : decode cX4_leastEase 27 = .ok (.iload_n 2, 1) := by decide +kernel
theorem dX4_leastEase_28 : decode cX4_leastEase 28 = .ok (.invokestatic 53, 3) := by decide +kernel
theorem dX4_leastEase_31 : decode cX4_leastEase 31 = .ok (.iconst 2, 1) := by decide +kernel
theorem dX4_leastEase_32 : decode cX4_leastEase 32 = .ok (.iadd, 1) := by decide +kernel
theorem dX4_leastEase_33 : decode cX4_leastEase 33 = .ok (.istore_n 3, 1) := by decide +kernel
theorem dX4_leastEase_34 : decode cX4_leastEase 34 = .ok (.aload_n 0, 1) := by decide +kernel
theorem dX4_leastEase_35 : decode cX4_leastEase 35 = .ok (.getfield 7, 3) := by decide +kernel
theorem dX4_leastEase_38 : decode cX4_leastEase 38 = .ok (.iload_n 3, 1) := by decide +kernel
theorem dX4_leastEase_39 : decode cX4_leastEase 39 = .ok (.iaload, 1) := by decide +kernel
theorem dX4_leastEase_40 : decode cX4_leastEase 40 = .ok (.istore 4, 2) := by decide +kernel
theorem dX4_leastEase_42 : decode cX4_leastEase 42 = .ok (.iconst (-1), 1) := by decide +kernel
theorem dX4_leastEase_43 : decode cX4_leastEase 43 = .ok (.istore 5, 2) := by decide +kernel
theorem dX4_leastEase_45 : decode cX4_leastEase 45 = .ok (.lconst 0, 1) := by decide +kernel
theorem dX4_leastEase_46 : decode cX4_leastEase 46 = .ok (.lstore 6, 2) := by decide +kernel
theorem dX4_leastEase_48 : decode cX4_leastEase 48 = .ok (.iconst 0, 1) := by decide +kernel
theorem dX4_leastEase_49 : decode cX4_leastEase 49 = .ok (.istore 8, 2) := by decide +kernel
theorem dX4_leastEase_51 : decode cX4_leastEase 51 = .ok (.iload 8, 2) := by decide +kernel
theorem dX4_leastEase_53 : decode cX4_leastEase 53 = .ok (.bipush 6, 2) := by decide +kernel
theorem dX4_leastEase_55 : decode cX4_leastEase 55 = .ok (.if_icmp .ge 89, 3) := by decide +kernel
theorem dX4_leastEase_58 : decode cX4_leastEase 58 = .ok (.aload_n 0, 1) := by decide +kernel
theorem dX4_leastEase_59 : decode cX4_leastEase 59 = .ok (.getfield 7, 3) := by decide +kernel
theorem dX4_leastEase_62 : decode cX4_leastEase 62 = .ok (.iload_n 3, 1) := by decide +kernel
theorem dX4_leastEase_63 : decode cX4_leastEase 63 = .ok (.iload 8, 2) := by decide +kernel
theorem dX4_leastEase_65 : decode cX4_leastEase 65 = .ok (.iastore, 1) := by decide +kernel
theorem dX4_leastEase_66 : decode cX4_leastEase 66 = .ok (.aload_n 0, 1) := by decide +kernel
theorem dX4_leastEase_67 : decode cX4_leastEase 67 = .ok (.iload_n 1, 1) := by decide +kernel
theorem dX4_leastEase_68 : decode cX4_leastEase 68 = .ok (.aload_n 0, 1) := by decide +kernel
theorem dX4_leastEase_69 : decode cX4_leastEase 69 = .ok (.iload_n 1, 1) := by decide +kernel
theorem dX4_leastEase_70 : decode cX4_leastEase 70 = .ok (.iload_n 2, 1) := by decide +kernel
theorem dX4_leastEase_71 : decode cX4_leastEase 71 = .ok (.iconst 0, 1) := by decide +kernel
theorem dX4_leastEase_72 : decode cX4_leastEase 72 = .ok (.invokevirtual 57, 3) := by decide +kernel
theorem dX4_leastEase_75 : decode cX4_leastEase 75 = .ok (.aload_n 0, 1) := by decide +kernel
theorem dX4_leastEase_76 : decode cX4_leastEase 76 = .ok (.iload_n 1, 1) := by decide +kernel
theorem dX4_leastEase_77 : decode cX4_leastEase 77 = .ok (.iload_n 2, 1) := by decide +kernel
theorem dX4_leastEase_78 : decode cX4_leastEase 78 = .ok (.iconst 1, 1) := by decide +kernel
theorem dX4_leastEase_79 : decode cX4_leastEase 79 = .ok (.iadd, 1) := by decide +kernel
theorem dX4_leastEase_80 : decode cX4_leastEase 80 = .ok (.iconst 0, 1) := by decide +kernel
theorem dX4_leastEase_81 : decode cX4_leastEase 81 = .ok (.invokevirtual 57, 3) := by decide +kernel
theorem dX4_leastEase_84 : decode cX4_leastEase 84 = .ok (.invokevirtual 143, 3) := by decide +kernel
theorem dX4_leastEase_87 : decode cX4_leastEase 87 = .ok (.lstore 9, 2) := by decide +kernel
theorem dX4_leastEase_89 : decode cX4_leastEase 89 = .ok (.iload 5, 2) := by decide +kernel
theorem dX4_leastEase_91 : decode cX4_leastEase 91 = .ok (.iconst (-1), 1) := by decide +kernel
theorem dX4_leastEase_92 : decode cX4_leastEase 92 = .ok (.if_icmp .eq 11, 3) := by decide +kernel
theorem dX4_leastEase_95 : decode cX4_leastEase 95 = .ok (.lload 9, 2) := by decide +kernel
theorem dX4_leastEase_97 : decode cX4_leastEase 97 = .ok (.lload 6, 2) := by decide +kernel
theorem dX4_leastEase_99 : decode cX4_leastEase 99 = .ok (.lcmp, 1) := by decide +kernel
theorem dX4_leastEase_100 : decode cX4_leastEase 100 = .ok (.ifCond .ge 7, 3) := by decide +kernel
theorem dX4_leastEase_103 : decode cX4_leastEase 103 = .ok (.iconst 1, 1) := by decide +kernel
theorem dX4_leastEase_104 : decode cX4_leastEase 104 = .ok (.goto 4, 3) := by decide +kernel
theorem dX4_leastEase_107 : decode cX4_leastEase 107 = .ok (.iconst 0, 1) := by decide +kernel
theorem dX4_leastEase_108 : decode cX4_leastEase 108 = .ok (.istore 11, 2) := by decide +kernel
theorem dX4_leastEase_110 : decode cX4_leastEase 110 = .ok (.iload 11, 2) := by decide +kernel
theorem dX4_leastEase_112 : decode cX4_leastEase 112 = .ok (.ifCond .eq 8, 3) := by decide +kernel
theorem dX4_leastEase_115 : decode cX4_leastEase 115 = .ok (.iload 8, 2) := by decide +kernel
theorem dX4_leastEase_117 : decode cX4_leastEase 117 = .ok (.goto 5, 3) := by decide +kernel
theorem dX4_leastEase_120 : decode cX4_leastEase 120 = .ok (.iload 5, 2) := by decide +kernel
theorem dX4_leastEase_122 : decode cX4_leastEase 122 = .ok (.istore 5, 2) := by decide +kernel
theorem dX4_leastEase_124 : decode cX4_leastEase 124 = .ok (.iload 11, 2) := by decide +kernel
theorem dX4_leastEase_126 : decode cX4_leastEase 126 = .ok (.ifCond .eq 8, 3) := by decide +kernel
theorem dX4_leastEase_129 : decode cX4_leastEase 129 = .ok (.lload 9, 2) := by decide +kernel
theorem dX4_leastEase_131 : decode cX4_leastEase 131 = .ok (.goto 5, 3) := by decide +kernel
theorem dX4_leastEase_134 : decode cX4_leastEase 134 = .ok (.lload 6, 2) := by decide +kernel
theorem dX4_leastEase_136 : decode cX4_leastEase 136 = .ok (.lstore 6, 2) := by decide +kernel
theorem dX4_leastEase_138 : decode cX4_leastEase 138 = .ok (.iinc 8 1, 3) := by decide +kernel
theorem dX4_leastEase_141 : decode cX4_leastEase 141 = .ok (.goto (-90), 3) := by decide +kernel
theorem dX4_leastEase_144 : decode cX4_leastEase 144 = .ok (.aload_n 0, 1) := by decide +kernel
theorem dX4_leastEase_145 : decode cX4_leastEase 145 = .ok (.getfield 7, 3) := by decide +kernel
theorem dX4_leastEase_148 : decode cX4_leastEase 148 = .ok (.iload_n 3, 1) := by decide +kernel
theorem dX4_leastEase_149 : decode cX4_leastEase 149 = .ok (.iload 4, 2) := by decide +kernel
theorem dX4_leastEase_151 : decode cX4_leastEase 151 = .ok (.iastore, 1) := by decide +kernel
theorem dX4_leastEase_152 : decode cX4_leastEase 152 = .ok (.aload_n 0, 1) := by decide +kernel
theorem dX4_leastEase_153 : decode cX4_leastEase 153 = .ok (.iload 5, 2) := by decide +kernel
theorem dX4_leastEase_155 : decode cX4_leastEase 155 = .ok (.invokevirtual 38, 3) := by decide +kernel
theorem dX4_leastEase_158 : decode cX4_leastEase 158 = .ok (.ireturn, 1) := by decide +kernel
set_option maxRecDepth 20000 in
theorem ggX4_append_X4_in : GoodIn wsX4_append wsX4_in := goodIn_r _ [6] (by decide +kernel) (by decide +kernel)
set_option maxRecDepth 20000 in
theorem gX4_append_X4_in : GoodIn wsX4_append (va_wsS RX4 42 yX4_in wsX4_in) := goodIn_app (goodIn_of _ (by decide +kernel)) ggX4_append_X4_in
set_option maxRecDepth 20000 in
theorem ggX4_append_X4_fails : GoodIn wsX4_append wsX4_fails := goodIn_r _ [10, 11, 16, 17, 18, 19, 20, 21, 22, 23, 24, 25, 26] (by decide +kernel) (by decide +kernel)
set_option maxRecDepth 20000 in
theorem gX4_append_X4_fails : GoodIn wsX4_append (wsV RX4 79 RX4 yX4_fails wsX4_fails) := goodIn_app (goodIn_of _ (by decide +kernel)) ggX4_append_X4_fails
set_option maxRecDepth 20000 in
theorem ggX4_append_X4_tells : GoodIn wsX4_append wsX4_tells := goodIn_r _ [15, 11, 16, 17, 18, 19, 20, 21, 22, 23, 24, 25, 26] (by decide +kernel) (by decide +kernel)
set_option maxRecDepth 20000 in
theorem gX4_append_X4_tells : GoodIn wsX4_append (wsV RX4 38 RX4 yX4_tells wsX4_tells) := goodIn_app (goodIn_of _ (by decide +kernel)) ggX4_append_X4_tells
theorem dX4_append_0 : decode cX4_append 0 = .ok (.iload_n 1, 1) := by decide +kernel
theorem dX4_append_1 : decode cX4_append 1 = .ok (.iconst 0, 1) := by decide +kernel
theorem dX4_append_2 : decode cX4_append 2 = .ok (.bipush 127, 2) := by decide +kernel
theorem dX4_append_4 : decode cX4_append 4 = .ok (.invokestatic 42, 3) := by decide +kernel
theorem dX4_append_7 : decode cX4_append 7 = .ok (.ifCond .ne 9, 3) := by decide +kernel
theorem dX4_append_10 : decode cX4_append 10 = .ok (.aload_n 0, 1) := by decide +kernel
theorem dX4_append_11 : decode cX4_append 11 = .ok (.iconst 1, 1) := by decide +kernel
theorem dX4_append_12 : decode cX4_append 12 = .ok (.invokevirtual 79, 3) := by decide +kernel
theorem dX4_append_15 : decode cX4_append 15 = .ok (.ireturn, 1) := by decide +kernel
theorem dX4_append_16 : decode cX4_append 16 = .ok (.aload_n 0, 1) := by decide +kernel
theorem dX4_append_17 : decode cX4_append 17 = .ok (.getfield 28, 3) := by decide +kernel
theorem dX4_append_20 : decode cX4_append 20 = .ok (.sipush 150, 3) := by decide +kernel
theorem dX4_append_23 : decode cX4_append 23 = .ok (.if_icmp .ne 9, 3) := by decide +kernel
theorem dX4_append_26 : decode cX4_append 26 = .ok (.aload_n 0, 1) := by decide +kernel
theorem dX4_append_27 : decode cX4_append 27 = .ok (.iconst 2, 1) := by decide +kernel
theorem dX4_append_28 : decode cX4_append 28 = .ok (.invokevirtual 79, 3) := by decide +kernel
theorem dX4_append_31 : decode cX4_append 31 = .ok (.ireturn, 1) := by decide +kernel
theorem dX4_append_32 : decode cX4_append 32 = .ok (.aload_n 0, 1) := by decide +kernel
theorem dX4_append_33 : decode cX4_append 33 = .ok (.getfield 22, 3) := by decide +kernel
theorem dX4_append_36 : decode cX4_append 36 = .ok (.aload_n 0, 1) := by decide +kernel
theorem dX4_append_37 : decode cX4_append 37 = .ok (.getfield 28, 3) := by decide +kernel
theorem dX4_append_40 : decode cX4_append 40 = .ok (.iload_n 1, 1) := by decide +kernel
theorem dX4_append_41 : decode cX4_append 41 = .ok (.iastore, 1) := by decide +kernel
theorem dX4_append_42 : decode cX4_append 42 = .ok (.aload_n 0, 1) := by decide +kernel
theorem dX4_append_43 : decode cX4_append 43 = .ok (.dup, 1) := by decide +kernel
theorem dX4_append_44 : decode cX4_append 44 = .ok (.getfield 28, 3) := by decide +kernel
theorem dX4_append_47 : decode cX4_append 47 = .ok (.iconst 1, 1) := by decide +kernel
theorem dX4_append_48 : decode cX4_append 48 = .ok (.iadd, 1) := by decide +kernel
theorem dX4_append_49 : decode cX4_append 49 = .ok (.putfield 28, 3) := by decide +kernel
theorem dX4_append_52 : decode cX4_append 52 = .ok (.aload_n 0, 1) := by decide +kernel
theorem dX4_append_53 : decode cX4_append 53 = .ok (.aload_n 0, 1) := by decide +kernel
theorem dX4_append_54 : decode cX4_append 54 = .ok (.getfield 28, 3) := by decide +kernel
theorem dX4_append_57 : decode cX4_append 57 = .ok (.invokevirtual 38, 3) := by decide +kernel
theorem dX4_append_60 : decode cX4_append 60 = .ok (.ireturn, 1) := by decide +kernel
set_option maxRecDepth 20000 in
theorem ggX4_clearText_X4_tells : GoodIn wsX4_clearText wsX4_tells := goodIn_r _ [6, 7, 8, 9, 10, 11, 12, 13, 14, 15, 16, 17, 18] (by decide +kernel) (by decide +kernel)
set_option maxRecDepth 20000 in
theorem gX4_clearText_X4_tells : GoodIn wsX4_clearText (wsV RX4 38 RX4 yX4_tells wsX4_tells) := goodIn_app (goodIn_of _ (by decide +kernel)) ggX4_clearText_X4_tells
theorem dX4_clearText_0 : decode cX4_clearText 0 = .ok (.aload_n 0, 1) := by decide +kernel
theorem dX4_clearText_1 : decode cX4_clearText 1 = .ok (.getfield 28, 3) := by decide +kernel
theorem dX4_clearText_4 : decode cX4_clearText 4 = .ok (.istore_n 1, 1) := by decide +kernel
theorem dX4_clearText_5 : decode cX4_clearText 5 = .ok (.aload_n 0, 1) := by decide +kernel
theorem dX4_clearText_6 : decode cX4_clearText 6 = .ok (.iconst 0, 1) := by decide +kernel
theorem dX4_clearText_7 : decode cX4_clearText 7 = .ok (.putfield 28, 3) := by decide +kernel
theorem dX4_clearText_10 : decode cX4_clearText 10 = .ok (.aload_n 0, 1) := by decide +kernel
theorem dX4_clearText_11 : decode cX4_clearText 11 = .ok (.iload_n 1, 1) := by decide +kernel
theorem dX4_clearText_12 : decode cX4_clearText 12 = .ok (.invokevirtual 38, 3) := by decide +kernel
theorem dX4_clearText_15 : decode cX4_clearText 15 = .ok (.ireturn, 1) := by decide +kernel
set_option maxRecDepth 20000 in
theorem ggX4_isAt_X4_in : GoodIn wsX4_isAt wsX4_in := goodIn_r _ [7] (by decide +kernel) (by decide +kernel)
set_option maxRecDepth 20000 in
theorem gX4_isAt_X4_in : GoodIn wsX4_isAt (va_wsS RX4 42 yX4_in wsX4_in) := goodIn_app (goodIn_of _ (by decide +kernel)) ggX4_isAt_X4_in
theorem dX4_isAt_0 : decode cX4_isAt 0 = .ok (.aload_n 0, 1) := by decide +kernel
theorem dX4_isAt_1 : decode cX4_isAt 1 = .ok (.getfield 152, 3) := by decide +kernel
theorem dX4_isAt_4 : decode cX4_isAt 4 = .ok (.aload_n 0, 1) := by decide +kernel
theorem dX4_isAt_5 : decode cX4_isAt 5 = .ok (.getfield 28, 3) := by decide +kernel
theorem dX4_isAt_8 : decode cX4_isAt 8 = .ok (.if_icmp .ge 24, 3) := by decide +kernel
theorem dX4_isAt_11 : decode cX4_isAt 11 = .ok (.aload_n 0, 1) := by decide +kernel
theorem dX4_isAt_12 : decode cX4_isAt 12 = .ok (.getfield 22, 3) := by decide +kernel
theorem dX4_isAt_15 : decode cX4_isAt 15 = .ok (.aload_n 0, 1) := by decide +kernel
theorem dX4_isAt_16 : decode cX4_isAt 16 = .ok (.getfield 152, 3) := by decide +kernel
theorem dX4_isAt_19 : decode cX4_isAt 19 = .ok (.iaload, 1) := by decide +kernel
theorem dX4_isAt_20 : decode cX4_isAt 20 = .ok (.iload_n 1, 1) := by decide +kernel
theorem dX4_isAt_21 : decode cX4_isAt 21 = .ok (.iload_n 2, 1) := by decide +kernel
theorem dX4_isAt_22 : decode cX4_isAt 22 = .ok (.invokestatic 42, 3) := by decide +kernel
theorem dX4_isAt_25 : decode cX4_isAt 25 = .ok (.ifCond .eq 7, 3) := by decide +kernel
theorem dX4_isAt_28 : decode cX4_isAt 28 = .ok (.iconst 1, 1) := by decide +kernel
theorem dX4_isAt_29 : decode cX4_isAt 29 = .ok (.goto 4, 3) := by decide +kernel
theorem dX4_isAt_32 : decode cX4_isAt 32 = .ok (.iconst 0, 1) := by decide +kernel
theorem dX4_isAt_33 : decode cX4_isAt 33 = .ok (.ireturn, 1) := by decide +kernel
set_option maxRecDepth 20000 in
theorem ggX4_takes_X4_isAt : GoodIn wsX4_takes wsX4_isAt := goodIn_r _ [6, 1, 7, 8, 9, 10, 5, 11, 12, 13, 14, 15, 16, 17, 18, 19, 20, 21, 22] (by decide +kernel) (by decide +kernel)
set_option maxRecDepth 20000 in
theorem gX4_takes_X4_isAt : GoodIn wsX4_takes (wsV RX4 155 RX4 yX4_isAt wsX4_isAt) := goodIn_app (goodIn_of _ (by decide +kernel)) ggX4_takes_X4_isAt
theorem dX4_takes_0 : decode cX4_takes 0 = .ok (.aload_n 0, 1) := by decide +kernel
theorem dX4_takes_1 : decode cX4_takes 1 = .ok (.iload_n 1, 1) := by decide +kernel
theorem dX4_takes_2 : decode cX4_takes 2 = .ok (.iload_n 1, 1) := by decide +kernel
theorem dX4_takes_3 : decode cX4_takes 3 = .ok (.invokevirtual 155, 3) := by decide +kernel
theorem dX4_takes_6 : decode cX4_takes 6 = .ok (.istore_n 2, 1) := by decide +kernel
theorem dX4_takes_7 : decode cX4_takes 7 = .ok (.aload_n 0, 1) := by decide +kernel
theorem dX4_takes_8 : decode cX4_takes 8 = .ok (.dup, 1) := by decide +kernel
theorem dX4_takes_9 : decode cX4_takes 9 = .ok (.getfield 152, 3) := by decide +kernel
theorem dX4_takes_12 : decode cX4_takes 12 = .ok (.iload_n 2, 1) := by decide +kernel
theorem dX4_takes_13 : decode cX4_takes 13 = .ok (.ifCond .eq 7, 3) := by decide +kernel
theorem dX4_takes_16 : decode cX4_takes 16 = .ok (.iconst 1, 1) := by decide +kernel
theorem dX4_takes_17 : decode cX4_takes 17 = .ok (.goto 4, 3) := by decide +kernel
theorem dX4_takes_20 : decode cX4_takes 20 = .ok (.iconst 0, 1) := by decide +kernel
theorem dX4_takes_21 : decode cX4_takes 21 = .ok (.iadd, 1) := by decide +kernel
theorem dX4_takes_22 : decode cX4_takes 22 = .ok (.putfield 152, 3) := by decide +kernel
theorem dX4_takes_25 : decode cX4_takes 25 = .ok (.iload_n 2, 1) := by decide +kernel
theorem dX4_takes_26 : decode cX4_takes 26 = .ok (.ireturn, 1) := by decide +kernel
set_option maxRecDepth 20000 in
theorem ggX4_isNumber_X4_isAt : GoodIn wsX4_isNumber wsX4_isAt := goodIn_r _ [8, 1, 9, 3, 10, 11, 7, 12, 13, 14, 15, 16, 17, 18, 19, 20, 21, 22, 23] (by decide +kernel) (by decide +kernel)
set_option maxRecDepth 20000 in
theorem gX4_isNumber_X4_isAt : GoodIn wsX4_isNumber (wsV RX4 155 RX4 yX4_isAt wsX4_isAt) := goodIn_app (goodIn_of _ (by decide +kernel)) ggX4_isNumber_X4_isAt
theorem dX4_isNumber_0 : decode cX4_isNumber 0 = .ok (.aload_n 0, 1) := by decide +kernel
theorem dX4_isNumber_1 : decode cX4_isNumber 1 = .ok (.getfield 152, 3) := by decide +kernel
theorem dX4_isNumber_4 : decode cX4_isNumber 4 = .ok (.istore_n 2, 1) := by decide +kernel
theorem dX4_isNumber_5 : decode cX4_isNumber 5 = .ok (.aload_n 0, 1) := by decide +kernel
theorem dX4_isNumber_6 : decode cX4_isNumber 6 = .ok (.iconst 0, 1) := by decide +kernel
theorem dX4_isNumber_7 : decode cX4_isNumber 7 = .ok (.putfield 158, 3) := by decide +kernel
theorem dX4_isNumber_10 : decode cX4_isNumber 10 = .ok (.aload_n 0, 1) := by decide +kernel
theorem dX4_isNumber_11 : decode cX4_isNumber 11 = .ok (.getfield 152, 3) := by decide +kernel
theorem dX4_isNumber_14 : decode cX4_isNumber 14 = .ok (.iload_n 2, 1) := by decide +kernel
theorem dX4_isNumber_15 : decode cX4_isNumber 15 = .ok (.isub, 1) := by decide +kernel
theorem dX4_isNumber_16 : decode cX4_isNumber 16 = .ok (.iload_n 1, 1) := by decide +kernel
theorem dX4_isNumber_17 : decode cX4_isNumber 17 = .ok (.if_icmp .ge 51, 3) := by decide +kernel
theorem dX4_isNumber_20 : decode cX4_isNumber 20 = .ok (.aload_n 0, 1) := by decide +kernel
theorem dX4_isNumber_21 : decode cX4_isNumber 21 = .ok (.bipush 48, 2) := by decide +kernel
theorem dX4_isNumber_23 : decode cX4_isNumber 23 = .ok (.bipush 57, 2) := by decide +kernel
theorem dX4_isNumber_25 : decode cX4_isNumber 25 = .ok (.invokevirtual 155, 3) := by decide +kernel
theorem dX4_isNumber_28 : decode cX4_isNumber 28 = .ok (.ifCond .eq 40, 3) := by decide +kernel
theorem dX4_isNumber_31 : decode cX4_isNumber 31 = .ok (.aload_n 0, 1) := by decide +kernel
theorem dX4_isNumber_32 : decode cX4_isNumber 32 = .ok (.bipush 10, 2) := by decide +kernel
theorem dX4_isNumber_34 : decode cX4_isNumber 34 = .ok (.aload_n 0, 1) := by decide +kernel
theorem dX4_isNumber_35 : decode cX4_isNumber 35 = .ok (.getfield 158, 3) := by decide +kernel
theorem dX4_isNumber_38 : decode cX4_isNumber 38 = .ok (.imul, 1) := by decide +kernel
theorem dX4_isNumber_39 : decode cX4_isNumber 39 = .ok (.aload_n 0, 1) := by decide +kernel
theorem dX4_isNumber_40 : decode cX4_isNumber 40 = .ok (.getfield 22, 3) := by decide +kernel
theorem dX4_isNumber_43 : decode cX4_isNumber 43 = .ok (.aload_n 0, 1) := by decide +kernel
theorem dX4_isNumber_44 : decode cX4_isNumber 44 = .ok (.getfield 152, 3) := by decide +kernel
theorem dX4_isNumber_47 : decode cX4_isNumber 47 = .ok (.iaload, 1) := by decide +kernel
theorem dX4_isNumber_48 : decode cX4_isNumber 48 = .ok (.iadd, 1) := by decide +kernel
theorem dX4_isNumber_49 : decode cX4_isNumber 49 = .ok (.bipush 48, 2) := by decide +kernel
theorem dX4_isNumber_51 : decode cX4_isNumber 51 = .ok (.isub, 1) := by decide +kernel
theorem dX4_isNumber_52 : decode cX4_isNumber 52 = .ok (.putfield 158, 3) := by decide +kernel
theorem dX4_isNumber_55 : decode cX4_isNumber 55 = .ok (.aload_n 0, 1) := by decide +kernel
theorem dX4_isNumber_56 : decode cX4_isNumber 56 = .ok (.dup, 1) := by decide +kernel
theorem dX4_isNumber_57 : decode cX4_isNumber 57 = .ok (.getfield 152, 3) := by decide +kernel
theorem dX4_isNumber_60 : decode cX4_isNumber 60 = .ok (.iconst 1, 1) := by decide +kernel
theorem dX4_isNumber_61 : decode cX4_isNumber 61 = .ok (.iadd, 1) := by decide +kernel
theorem dX4_isNumber_62 : decode cX4_isNumber 62 = .ok (.putfield 152, 3) := by decide +kernel
theorem dX4_isNumber_65 : decode cX4_isNumber 65 = .ok (.goto (-55), 3) := by decide +kernel
theorem dX4_isNumber_68 : decode cX4_isNumber 68 = .ok (.aload_n 0, 1) := by decide +kernel
theorem dX4_isNumber_69 : decode cX4_isNumber 69 = .ok (.getfield 152, 3) := by decide +kernel
theorem dX4_isNumber_72 : decode cX4_isNumber 72 = .ok (.iload_n 2, 1) := by decide +kernel
theorem dX4_isNumber_73 : decode cX4_isNumber 73 = .ok (.if_icmp .le 18, 3) := by decide +kernel
theorem dX4_isNumber_76 : decode cX4_isNumber 76 = .ok (.aload_n 0, 1) := by decide +kernel
theorem dX4_isNumber_77 : decode cX4_isNumber 77 = .ok (.bipush 48, 2) := by decide +kernel
theorem dX4_isNumber_79 : decode cX4_isNumber 79 = .ok (.bipush 57, 2) := by decide +kernel
theorem dX4_isNumber_81 : decode cX4_isNumber 81 = .ok (.invokevirtual 155, 3) := by decide +kernel
theorem dX4_isNumber_84 : decode cX4_isNumber 84 = .ok (.ifCond .ne 7, 3) := by decide +kernel
theorem dX4_isNumber_87 : decode cX4_isNumber 87 = .ok (.iconst 1, 1) := by decide +kernel
theorem dX4_isNumber_88 : decode cX4_isNumber 88 = .ok (.goto 4, 3) := by decide +kernel
theorem dX4_isNumber_91 : decode cX4_isNumber 91 = .ok (.iconst 0, 1) := by decide +kernel
theorem dX4_isNumber_92 : decode cX4_isNumber 92 = .ok (.ireturn, 1) := by decide +kernel
set_option maxRecDepth 20000 in
theorem ggX4_isItem_X4_many : GoodIn wsX4_isItem wsX4_many := goodIn_r _ [9, 4, 37, 38, 39, 40, 41, 42, 43, 44, 45, 46, 47] (by decide +kernel) (by decide +kernel)
set_option maxRecDepth 20000 in
theorem gX4_isItem_X4_many : GoodIn wsX4_isItem (wsV RX4 50 RX4 yX4_many wsX4_many) := goodIn_app (goodIn_of _ (by decide +kernel)) ggX4_isItem_X4_many
set_option maxRecDepth 20000 in
theorem ggX4_isItem_X4_isNumber : GoodIn wsX4_isItem wsX4_isNumber := goodIn_r _ [13, 1, 2, 3, 14, 15, 16, 8, 17, 18, 19, 20, 21, 37, 38, 39, 40, 41, 42, 43, 44, 45, 46, 47] (by decide +kernel) (by decide +kernel)
set_option maxRecDepth 20000 in
theorem gX4_isItem_X4_isNumber : GoodIn wsX4_isItem (wsV RX4 161 RX4 yX4_isNumber wsX4_isNumber) := goodIn_app (goodIn_of _ (by decide +kernel)) ggX4_isItem_X4_isNumber
set_option maxRecDepth 20000 in
theorem ggX4_isItem_X4_of : GoodIn wsX4_isItem wsX4_of := goodIn_r _ [25, 4, 26, 27, 8, 28, 37, 38, 39, 40, 41, 42, 43, 44, 45, 46, 47] (by decide +kernel) (by decide +kernel)
set_option maxRecDepth 20000 in
theorem gX4_isItem_X4_of : GoodIn wsX4_isItem (wsV RX4 57 RX4 yX4_of wsX4_of) := goodIn_app (goodIn_of _ (by decide +kernel)) ggX4_isItem_X4_of
set_option maxRecDepth 20000 in
theorem ggX4_isItem_X4_takes : GoodIn wsX4_isItem wsX4_takes := goodIn_r _ [32, 1, 14, 15, 16, 8, 17, 18, 3, 19, 20, 21, 37, 38, 39, 40, 41, 42, 43, 44, 45, 46, 47] (by decide +kernel) (by decide +kernel)
set_option maxRecDepth 20000 in
theorem gX4_isItem_X4_takes : GoodIn wsX4_isItem (wsV RX4 164 RX4 yX4_takes wsX4_takes) := goodIn_app (goodIn_of _ (by decide +kernel)) ggX4_isItem_X4_takes
set_option maxRecDepth 20000 in
theorem ggX4_isItem_X4_isAt : GoodIn wsX4_isItem wsX4_isAt := goodIn_r _ [17, 1, 18, 3, 19, 20, 8, 21, 37, 38, 39, 40, 41, 42, 43, 44, 45, 46, 47] (by decide +kernel) (by decide +kernel)
set_option maxRecDepth 20000 in
theorem gX4_isItem_X4_isAt : GoodIn wsX4_isItem (wsV RX4 155 RX4 yX4_isAt wsX4_isAt) := goodIn_app (goodIn_of _ (by decide +kernel)) ggX4_isItem_X4_isAt
set_option maxRecDepth 20000 in
theorem ggX4_isItem_X4_comes : GoodIn wsX4_isItem wsX4_comes := goodIn_r _ [36, 4, 5, 6, 7, 8, 9, 22, 23, 24, 25, 26, 27, 28, 37, 38, 39, 40, 41, 42, 43, 44, 45, 46, 47] (by decide +kernel) (by decide +kernel)
set_option maxRecDepth 20000 in
theorem gX4_isItem_X4_comes : GoodIn wsX4_isItem (wsV RX4 94 RX4 yX4_comes wsX4_comes) := goodIn_app (goodIn_of _ (by decide +kernel)) ggX4_isItem_X4_comes
set_option maxRecDepth 20000 in
theorem ggX4_isItem_X4_spot : GoodIn wsX4_isItem wsX4_spot := goodIn_r _ [28] (by decide +kernel) (by decide +kernel)
set_option maxRecDepth 20000 in
theorem gX4_isItem_X4_spot : GoodIn wsX4_isItem (va_wsS RX4 53 yX4_spot wsX4_spot) := goodIn_app (goodIn_of _ (by decide +kernel)) ggX4_isItem_X4_spot
theorem dX4_isItem_0 : decode cX4_isItem 0 = .ok (.aload_n 0, 1) := by decide +kernel
theorem dX4_isItem_1 : decode cX4_isItem 1 = .ok (.getfield 152, 3) := by decide +kernel
theorem dX4_isItem_4 : decode cX4_isItem 4 = .ok (.istore_n 2, 1) := by decide +kernel
theorem dX4_isItem_5 : decode cX4_isItem 5 = .ok (.aload_n 0, 1) := by decide +kernel
theorem dX4_isItem_6 : decode cX4_isItem 6 = .ok (.iload_n 1, 1) := by decide +kernel
theorem dX4_isItem_7 : decode cX4_isItem 7 = .ok (.invokevirtual 50, 3) := by decide +kernel
theorem dX4_isItem_10 : decode cX4_isItem 10 = .ok (.istore_n 3, 1) := by decide +kernel
theorem dX4_isItem_11 : decode cX4_isItem 11 = .ok (.iload_n 3, 1) := by decide +kernel
theorem dX4_isItem_12 : decode cX4_isItem 12 = .ok (.bipush 16, 2) := by decide +kernel
theorem dX4_isItem_14 : decode cX4_isItem 14 = .ok (.if_icmp .eq 11, 3) := by decide +kernel
theorem dX4_isItem_17 : decode cX4_isItem 17 = .ok (.aload_n 0, 1) := by decide +kernel
theorem dX4_isItem_18 : decode cX4_isItem 18 = .ok (.iconst 3, 1) := by decide +kernel
theorem dX4_isItem_19 : decode cX4_isItem 19 = .ok (.invokevirtual 161, 3) := by decide +kernel
theorem dX4_isItem_22 : decode cX4_isItem 22 = .ok (.ifCond .ne 5, 3) := by decide +kernel
theorem dX4_isItem_25 : decode cX4_isItem 25 = .ok (.iconst 0, 1) := by decide +kernel
theorem dX4_isItem_26 : decode cX4_isItem 26 = .ok (.ireturn, 1) := by decide +kernel
theorem dX4_isItem_27 : decode cX4_isItem 27 = .ok (.iload_n 3, 1) := by decide +kernel
theorem dX4_isItem_28 : decode cX4_isItem 28 = .ok (.ifCond .le 26, 3) := by decide +kernel
theorem dX4_isItem_31 : decode cX4_isItem 31 = .ok (.aload_n 0, 1) := by decide +kernel
theorem dX4_isItem_32 : decode cX4_isItem 32 = .ok (.getfield 158, 3) := by decide +kernel
theorem dX4_isItem_35 : decode cX4_isItem 35 = .ok (.aload_n 0, 1) := by decide +kernel
theorem dX4_isItem_36 : decode cX4_isItem 36 = .ok (.iload_n 1, 1) := by decide +kernel
theorem dX4_isItem_37 : decode cX4_isItem 37 = .ok (.iload_n 3, 1) := by decide +kernel
theorem dX4_isItem_38 : decode cX4_isItem 38 = .ok (.iconst 1, 1) := by decide +kernel
theorem dX4_isItem_39 : decode cX4_isItem 39 = .ok (.isub, 1) := by decide +kernel
theorem dX4_isItem_40 : decode cX4_isItem 40 = .ok (.iconst 0, 1) := by decide +kernel
theorem dX4_isItem_41 : decode cX4_isItem 41 = .ok (.invokevirtual 57, 3) := by decide +kernel
theorem dX4_isItem_44 : decode cX4_isItem 44 = .ok (.if_icmp .gt 10, 3) := by decide +kernel
theorem dX4_isItem_47 : decode cX4_isItem 47 = .ok (.aload_n 0, 1) := by decide +kernel
theorem dX4_isItem_48 : decode cX4_isItem 48 = .ok (.iload_n 2, 1) := by decide +kernel
theorem dX4_isItem_49 : decode cX4_isItem 49 = .ok (.putfield 152, 3) := by decide +kernel
theorem dX4_isItem_52 : decode cX4_isItem 52 = .ok (.iconst 0, 1) := by decide +kernel
theorem dX4_isItem_53 : decode cX4_isItem 53 = .ok (.ireturn, 1) := by decide +kernel
theorem dX4_isItem_54 : decode cX4_isItem 54 = .ok (.aload_n 0, 1) := by decide +kernel
theorem dX4_isItem_55 : decode cX4_isItem 55 = .ok (.getfield 158, 3) := by decide +kernel
theorem dX4_isItem_58 : decode cX4_isItem 58 = .ok (.istore 4, 2) := by decide +kernel
theorem dX4_isItem_60 : decode cX4_isItem 60 = .ok (.aload_n 0, 1) := by decide +kernel
theorem dX4_isItem_61 : decode cX4_isItem 61 = .ok (.bipush 44, 2) := by decide +kernel
theorem dX4_isItem_63 : decode cX4_isItem 63 = .ok (.invokevirtual 164, 3) := by decide +kernel
theorem dX4_isItem_66 : decode cX4_isItem 66 = .ok (.ifCond .ne 5, 3) := by decide +kernel
theorem dX4_isItem_69 : decode cX4_isItem 69 = .ok (.iconst 0, 1) := by decide +kernel
theorem dX4_isItem_70 : decode cX4_isItem 70 = .ok (.ireturn, 1) := by decide +kernel
theorem dX4_isItem_71 : decode cX4_isItem 71 = .ok (.aload_n 0, 1) := by decide +kernel
theorem dX4_isItem_72 : decode cX4_isItem 72 = .ok (.bipush 45, 2) := by decide +kernel
theorem dX4_isItem_74 : decode cX4_isItem 74 = .ok (.invokevirtual 164, 3) := by decide +kernel
theorem dX4_isItem_77 : decode cX4_isItem 77 = .ok (.ifCond .eq 7, 3) := by decide +kernel
theorem dX4_isItem_80 : decode cX4_isItem 80 = .ok (.iconst (-1), 1) := by decide +kernel
theorem dX4_isItem_81 : decode cX4_isItem 81 = .ok (.goto 4, 3) := by decide +kernel
theorem dX4_isItem_84 : decode cX4_isItem 84 = .ok (.iconst 1, 1) := by decide +kernel
theorem dX4_isItem_85 : decode cX4_isItem 85 = .ok (.istore 5, 2) := by decide +kernel
theorem dX4_isItem_87 : decode cX4_isItem 87 = .ok (.aload_n 0, 1) := by decide +kernel
theorem dX4_isItem_88 : decode cX4_isItem 88 = .ok (.iconst 4, 1) := by decide +kernel
theorem dX4_isItem_89 : decode cX4_isItem 89 = .ok (.invokevirtual 161, 3) := by decide +kernel
theorem dX4_isItem_92 : decode cX4_isItem 92 = .ok (.ifCond .eq 12, 3) := by decide +kernel
theorem dX4_isItem_95 : decode cX4_isItem 95 = .ok (.aload_n 0, 1) := by decide +kernel
theorem dX4_isItem_96 : decode cX4_isItem 96 = .ok (.bipush 44, 2) := by decide +kernel
theorem dX4_isItem_98 : decode cX4_isItem 98 = .ok (.invokevirtual 164, 3) := by decide +kernel
theorem dX4_isItem_101 : decode cX4_isItem 101 = .ok (.ifCond .ne 5, 3) := by decide +kernel
theorem dX4_isItem_104 : decode cX4_isItem 104 = .ok (.iconst 0, 1) := by decide +kernel
theorem dX4_isItem_105 : decode cX4_isItem 105 = .ok (.ireturn, 1) := by decide +kernel
theorem dX4_isItem_106 : decode cX4_isItem 106 = .ok (.iload 5, 2) := by decide +kernel
theorem dX4_isItem_108 : decode cX4_isItem 108 = .ok (.aload_n 0, 1) := by decide +kernel
theorem dX4_isItem_109 : decode cX4_isItem 109 = .ok (.getfield 158, 3) := by decide +kernel
theorem dX4_isItem_112 : decode cX4_isItem 112 = .ok (.imul, 1) := by decide +kernel
theorem dX4_isItem_113 : decode cX4_isItem 113 = .ok (.istore 6, 2) := by decide +kernel
theorem dX4_isItem_115 : decode cX4_isItem 115 = .ok (.aload_n 0, 1) := by decide +kernel
theorem dX4_isItem_116 : decode cX4_isItem 116 = .ok (.bipush 48, 2) := by decide +kernel
theorem dX4_isItem_118 : decode cX4_isItem 118 = .ok (.bipush 53, 2) := by decide +kernel
theorem dX4_isItem_120 : decode cX4_isItem 120 = .ok (.invokevirtual 155, 3) := by decide +kernel
theorem dX4_isItem_123 : decode cX4_isItem 123 = .ok (.ifCond .ne 5, 3) := by decide +kernel
theorem dX4_isItem_126 : decode cX4_isItem 126 = .ok (.iconst 0, 1) := by decide +kernel
theorem dX4_isItem_127 : decode cX4_isItem 127 = .ok (.ireturn, 1) := by decide +kernel
theorem dX4_isItem_128 : decode cX4_isItem 128 = .ok (.aload_n 0, 1) := by decide +kernel
theorem dX4_isItem_129 : decode cX4_isItem 129 = .ok (.getfield 22, 3) := by decide +kernel
theorem dX4_isItem_132 : decode cX4_isItem 132 = .ok (.aload_n 0, 1) := by decide +kernel
theorem dX4_isItem_133 : decode cX4_isItem 133 = .ok (.getfield 152, 3) := by decide +kernel
theorem dX4_isItem_136 : decode cX4_isItem 136 = .ok (.iaload, 1) := by decide +kernel
theorem dX4_isItem_137 : decode cX4_isItem 137 = .ok (.bipush 48, 2) := by decide +kernel
theorem dX4_isItem_139 : decode cX4_isItem 139 = .ok (.isub, 1) := by decide +kernel
theorem dX4_isItem_140 : decode cX4_isItem 140 = .ok (.istore 7, 2) := by decide +kernel
theorem dX4_isItem_142 : decode cX4_isItem 142 = .ok (.aload_n 0, 1) := by decide +kernel
theorem dX4_isItem_143 : decode cX4_isItem 143 = .ok (.dup, 1) := by decide +kernel
theorem dX4_isItem_144 : decode cX4_isItem 144 = .ok (.getfield 152, 3) := by decide +kernel
theorem dX4_isItem_147 : decode cX4_isItem 147 = .ok (.iconst 1, 1) := by decide +kernel
theorem dX4_isItem_148 : decode cX4_isItem 148 = .ok (.iadd, 1) := by decide +kernel
theorem dX4_isItem_149 : decode cX4_isItem 149 = .ok (.putfield 152, 3) := by decide +kernel
theorem dX4_isItem_152 : decode cX4_isItem 152 = .ok (.aload_n 0, 1) := by decide +kernel
theorem dX4_isItem_153 : decode cX4_isItem 153 = .ok (.bipush 108, 2) := by decide +kernel
theorem dX4_isItem_155 : decode cX4_isItem 155 = .ok (.invokevirtual 164, 3) := by decide +kernel
theorem dX4_isItem_158 : decode cX4_isItem 158 = .ok (.ifCond .eq 7, 3) := by decide +kernel
theorem dX4_isItem_161 : decode cX4_isItem 161 = .ok (.iconst 1, 1) := by decide +kernel
theorem dX4_isItem_162 : decode cX4_isItem 162 = .ok (.goto 4, 3) := by decide +kernel
theorem dX4_isItem_165 : decode cX4_isItem 165 = .ok (.iconst 0, 1) := by decide +kernel
theorem dX4_isItem_166 : decode cX4_isItem 166 = .ok (.istore 8, 2) := by decide +kernel
theorem dX4_isItem_168 : decode cX4_isItem 168 = .ok (.aload_n 0, 1) := by decide +kernel
theorem dX4_isItem_169 : decode cX4_isItem 169 = .ok (.bipush 115, 2) := by decide +kernel
theorem dX4_isItem_171 : decode cX4_isItem 171 = .ok (.invokevirtual 164, 3) := by decide +kernel
theorem dX4_isItem_174 : decode cX4_isItem 174 = .ok (.ifCond .eq 7, 3) := by decide +kernel
theorem dX4_isItem_177 : decode cX4_isItem 177 = .ok (.iconst 1, 1) := by decide +kernel
theorem dX4_isItem_178 : decode cX4_isItem 178 = .ok (.goto 17, 3) := by decide +kernel
theorem dX4_isItem_181 : decode cX4_isItem 181 = .ok (.aload_n 0, 1) := by decide +kernel
theorem dX4_isItem_182 : decode cX4_isItem 182 = .ok (.bipush 118, 2) := by decide +kernel
theorem dX4_isItem_184 : decode cX4_isItem 184 = .ok (.invokevirtual 164, 3) := by decide +kernel
theorem dX4_isItem_187 : decode cX4_isItem 187 = .ok (.ifCond .eq 7, 3) := by decide +kernel
theorem dX4_isItem_190 : decode cX4_isItem 190 = .ok (.iconst 2, 1) := by decide +kernel
theorem dX4_isItem_191 : decode cX4_isItem 191 = .ok (.goto 4, 3) := by decide +kernel
theorem dX4_isItem_194 : decode cX4_isItem 194 = .ok (.iconst 0, 1) := by decide +kernel
theorem dX4_isItem_195 : decode cX4_isItem 195 = .ok (.istore 9, 2) := by decide +kernel
theorem dX4_isItem_197 : decode cX4_isItem 197 = .ok (.aload_n 0, 1) := by decide +kernel
theorem dX4_isItem_198 : decode cX4_isItem 198 = .ok (.bipush 59, 2) := by decide +kernel
theorem dX4_isItem_200 : decode cX4_isItem 200 = .ok (.invokevirtual 164, 3) := by decide +kernel
theorem dX4_isItem_203 : decode cX4_isItem 203 = .ok (.ifCond .ne 5, 3) := by decide +kernel
theorem dX4_isItem_206 : decode cX4_isItem 206 = .ok (.iconst 0, 1) := by decide +kernel
theorem dX4_isItem_207 : decode cX4_isItem 207 = .ok (.ireturn, 1) := by decide +kernel
theorem dX4_isItem_208 : decode cX4_isItem 208 = .ok (.aload_n 0, 1) := by decide +kernel
theorem dX4_isItem_209 : decode cX4_isItem 209 = .ok (.iload_n 1, 1) := by decide +kernel
theorem dX4_isItem_210 : decode cX4_isItem 210 = .ok (.iload 4, 2) := by decide +kernel
theorem dX4_isItem_212 : decode cX4_isItem 212 = .ok (.iload 6, 2) := by decide +kernel
theorem dX4_isItem_214 : decode cX4_isItem 214 = .ok (.iload 7, 2) := by decide +kernel
theorem dX4_isItem_216 : decode cX4_isItem 216 = .ok (.invokevirtual 94, 3) := by decide +kernel
theorem dX4_isItem_219 : decode cX4_isItem 219 = .ok (.istore 10, 2) := by decide +kernel
theorem dX4_isItem_221 : decode cX4_isItem 221 = .ok (.aload_n 0, 1) := by decide +kernel
theorem dX4_isItem_222 : decode cX4_isItem 222 = .ok (.getfield 7, 3) := by decide +kernel
theorem dX4_isItem_225 : decode cX4_isItem 225 = .ok (.iload_n 1, 1) := by decide +kernel
theorem dX4_isItem_226 : decode cX4_isItem 226 = .ok (.iload 10, 2) := by decide +kernel
theorem dX4_isItem_228 : decode cX4_isItem 228 = .ok (.invokestatic 53, 3) := by decide +kernel
theorem dX4_isItem_231 : decode cX4_isItem 231 = .ok (.iconst 3, 1) := by decide +kernel
theorem dX4_isItem_232 : decode cX4_isItem 232 = .ok (.iadd, 1) := by decide +kernel
theorem dX4_isItem_233 : decode cX4_isItem 233 = .ok (.iload 9, 2) := by decide +kernel
theorem dX4_isItem_235 : decode cX4_isItem 235 = .ok (.iastore, 1) := by decide +kernel
theorem dX4_isItem_236 : decode cX4_isItem 236 = .ok (.aload_n 0, 1) := by decide +kernel
theorem dX4_isItem_237 : decode cX4_isItem 237 = .ok (.getfield 7, 3) := by decide +kernel
theorem dX4_isItem_240 : decode cX4_isItem 240 = .ok (.iload_n 1, 1) := by decide +kernel
theorem dX4_isItem_241 : decode cX4_isItem 241 = .ok (.iload 10, 2) := by decide +kernel
theorem dX4_isItem_243 : decode cX4_isItem 243 = .ok (.invokestatic 53, 3) := by decide +kernel
theorem dX4_isItem_246 : decode cX4_isItem 246 = .ok (.iconst 5, 1) := by decide +kernel
theorem dX4_isItem_247 : decode cX4_isItem 247 = .ok (.iadd, 1) := by decide +kernel
theorem dX4_isItem_248 : decode cX4_isItem 248 = .ok (.iload 8, 2) := by decide +kernel
theorem dX4_isItem_250 : decode cX4_isItem 250 = .ok (.iastore, 1) := by decide +kernel
theorem dX4_isItem_251 : decode cX4_isItem 251 = .ok (.iconst 1, 1) := by decide +kernel
theorem dX4_isItem_252 : decode cX4_isItem 252 = .ok (.ireturn, 1) := by decide +kernel
set_option maxRecDepth 20000 in
theorem ggX4_parse_X4_isCurve : GoodIn wsX4_parse wsX4_isCurve := goodIn_r _ [8, 9, 10, 7, 11] (by decide +kernel) (by decide +kernel)
set_option maxRecDepth 20000 in
theorem gX4_parse_X4_isCurve : GoodIn wsX4_parse (va_wsS RX4 46 yX4_isCurve wsX4_isCurve) := goodIn_app (goodIn_of _ (by decide +kernel)) ggX4_parse_X4_isCurve
set_option maxRecDepth 20000 in
theorem ggX4_parse_X4_fails : GoodIn wsX4_parse wsX4_fails := goodIn_r _ [15, 16, 68, 69, 70, 71, 72, 73, 74, 75, 76, 77, 78] (by decide +kernel) (by decide +kernel)
set_option maxRecDepth 20000 in
theorem gX4_parse_X4_fails : GoodIn wsX4_parse (wsV RX4 79 RX4 yX4_fails wsX4_fails) := goodIn_app (goodIn_of _ (by decide +kernel)) ggX4_parse_X4_fails
set_option maxRecDepth 20000 in
theorem ggX4_parse_X4_hold : GoodIn wsX4_parse wsX4_hold := goodIn_r _ [20, 4, 1, 68, 69, 70, 71, 72, 73, 74, 75, 76, 77, 78] (by decide +kernel) (by decide +kernel)
set_option maxRecDepth 20000 in
theorem gX4_parse_X4_hold : GoodIn wsX4_parse (wsV RX4 91 RX4 yX4_hold wsX4_hold) := goodIn_app (goodIn_of _ (by decide +kernel)) ggX4_parse_X4_hold
set_option maxRecDepth 20000 in
theorem ggX4_parse_X4_hasLock : GoodIn wsX4_parse wsX4_hasLock := goodIn_r _ [24, 25, 26, 27, 7, 28, 1, 29, 30, 31, 32, 33, 34, 35, 68, 69, 70, 71, 72, 73, 74, 75, 76, 77, 78] (by decide +kernel) (by decide +kernel)
set_option maxRecDepth 20000 in
theorem gX4_parse_X4_hasLock : GoodIn wsX4_parse (wsV RX4 121 RX4 yX4_hasLock wsX4_hasLock) := goodIn_app (goodIn_of _ (by decide +kernel)) ggX4_parse_X4_hasLock
set_option maxRecDepth 20000 in
theorem ggX4_parse_X4_isItem : GoodIn wsX4_parse wsX4_isItem := goodIn_r _ [39, 2, 40, 41, 1, 25, 26, 27, 7, 28, 42, 43, 44, 45, 46, 47, 48, 49, 3, 9, 10, 11, 29, 30, 31, 32, 33, 34, 35, 50, 51, 52, 53, 54, 55, 56, 57, 68, 69, 70, 71, 72, 73, 74, 75, 76, 77, 78] (by decide +kernel) (by decide +kernel)
set_option maxRecDepth 20000 in
theorem gX4_parse_X4_isItem : GoodIn wsX4_parse (wsV RX4 167 RX4 yX4_isItem wsX4_isItem) := goodIn_app (goodIn_of _ (by decide +kernel)) ggX4_parse_X4_isItem
set_option maxRecDepth 20000 in
theorem ggX4_parse_X4_many : GoodIn wsX4_parse wsX4_many := goodIn_r _ [28, 1, 68, 69, 70, 71, 72, 73, 74, 75, 76, 77, 78] (by decide +kernel) (by decide +kernel)
set_option maxRecDepth 20000 in
theorem gX4_parse_X4_many : GoodIn wsX4_parse (wsV RX4 50 RX4 yX4_many wsX4_many) := goodIn_app (goodIn_of _ (by decide +kernel)) ggX4_parse_X4_many
set_option maxRecDepth 20000 in
theorem ggX4_parse_X4_tells : GoodIn wsX4_parse wsX4_tells := goodIn_r _ [61, 16, 68, 69, 70, 71, 72, 73, 74, 75, 76, 77, 78] (by decide +kernel) (by decide +kernel)
set_option maxRecDepth 20000 in
theorem gX4_parse_X4_tells : GoodIn wsX4_parse (wsV RX4 38 RX4 yX4_tells wsX4_tells) := goodIn_app (goodIn_of _ (by decide +kernel)) ggX4_parse_X4_tells
set_option maxRecDepth 20000 in
theorem ggX4_parse_X4_ends : GoodIn wsX4_parse wsX4_ends := goodIn_r _ [65, 66, 67, 4, 58, 59, 60, 7, 61, 16, 68, 69, 70, 71, 72, 73, 74, 75, 76, 77, 78] (by decide +kernel) (by decide +kernel)
set_option maxRecDepth 20000 in
theorem gX4_parse_X4_ends : GoodIn wsX4_parse (wsV RX4 98 RX4 yX4_ends wsX4_ends) := goodIn_app (goodIn_of _ (by decide +kernel)) ggX4_parse_X4_ends
theorem dX4_parse_0 : decode cX4_parse 0 = .ok (.iload_n 1, 1) := by decide +kernel
theorem dX4_parse_1 : decode cX4_parse 1 = .ok (.invokestatic 46, 3) := by decide +kernel
theorem dX4_parse_4 : decode cX4_parse 4 = .ok (.ifCond .ne 9, 3) := by decide +kernel
theorem dX4_parse_7 : decode cX4_parse 7 = .ok (.aload_n 0, 1) := by decide +kernel
theorem dX4_parse_8 : decode cX4_parse 8 = .ok (.iconst 1, 1) := by decide +kernel
theorem dX4_parse_9 : decode cX4_parse 9 = .ok (.invokevirtual 79, 3) := by decide +kernel
theorem dX4_parse_12 : decode cX4_parse 12 = .ok (.ireturn, 1) := by decide +kernel
theorem dX4_parse_13 : decode cX4_parse 13 = .ok (.aload_n 0, 1) := by decide +kernel
theorem dX4_parse_14 : decode cX4_parse 14 = .ok (.invokevirtual 91, 3) := by decide +kernel
theorem dX4_parse_17 : decode cX4_parse 17 = .ok (.aload_n 0, 1) := by decide +kernel
theorem dX4_parse_18 : decode cX4_parse 18 = .ok (.iload_n 1, 1) := by decide +kernel
theorem dX4_parse_19 : decode cX4_parse 19 = .ok (.invokevirtual 121, 3) := by decide +kernel
theorem dX4_parse_22 : decode cX4_parse 22 = .ok (.istore_n 2, 1) := by decide +kernel
theorem dX4_parse_23 : decode cX4_parse 23 = .ok (.aload_n 0, 1) := by decide +kernel
theorem dX4_parse_24 : decode cX4_parse 24 = .ok (.getfield 7, 3) := by decide +kernel
theorem dX4_parse_27 : decode cX4_parse 27 = .ok (.bipush 97, 2) := by decide +kernel
theorem dX4_parse_29 : decode cX4_parse 29 = .ok (.iload_n 1, 1) := by decide +kernel
theorem dX4_parse_30 : decode cX4_parse 30 = .ok (.imul, 1) := by decide +kernel
theorem dX4_parse_31 : decode cX4_parse 31 = .ok (.iconst 0, 1) := by decide +kernel
theorem dX4_parse_32 : decode cX4_parse 32 = .ok (.iastore, 1) := by decide +kernel
theorem dX4_parse_33 : decode cX4_parse 33 = .ok (.aload_n 0, 1) := by decide +kernel
theorem dX4_parse_34 : decode cX4_parse 34 = .ok (.iconst 0, 1) := by decide +kernel
theorem dX4_parse_35 : decode cX4_parse 35 = .ok (.putfield 152, 3) := by decide +kernel
theorem dX4_parse_38 : decode cX4_parse 38 = .ok (.iconst 1, 1) := by decide +kernel
theorem dX4_parse_39 : decode cX4_parse 39 = .ok (.istore_n 3, 1) := by decide +kernel
theorem dX4_parse_40 : decode cX4_parse 40 = .ok (.aload_n 0, 1) := by decide +kernel
theorem dX4_parse_41 : decode cX4_parse 41 = .ok (.getfield 152, 3) := by decide +kernel
theorem dX4_parse_44 : decode cX4_parse 44 = .ok (.aload_n 0, 1) := by decide +kernel
theorem dX4_parse_45 : decode cX4_parse 45 = .ok (.getfield 28, 3) := by decide +kernel
theorem dX4_parse_48 : decode cX4_parse 48 = .ok (.if_icmp .ge 16, 3) := by decide +kernel
theorem dX4_parse_51 : decode cX4_parse 51 = .ok (.iload_n 3, 1) := by decide +kernel
theorem dX4_parse_52 : decode cX4_parse 52 = .ok (.ifCond .eq 12, 3) := by decide +kernel
theorem dX4_parse_55 : decode cX4_parse 55 = .ok (.aload_n 0, 1) := by decide +kernel
theorem dX4_parse_56 : decode cX4_parse 56 = .ok (.iload_n 1, 1) := by decide +kernel
theorem dX4_parse_57 : decode cX4_parse 57 = .ok (.invokevirtual 167, 3) := by decide +kernel
theorem dX4_parse_60 : decode cX4_parse 60 = .ok (.istore_n 3, 1) := by decide +kernel
theorem dX4_parse_61 : decode cX4_parse 61 = .ok (.goto (-21), 3) := by decide +kernel
theorem dX4_parse_64 : decode cX4_parse 64 = .ok (.aload_n 0, 1) := by decide +kernel
theorem dX4_parse_65 : decode cX4_parse 65 = .ok (.iload_n 1, 1) := by decide +kernel
theorem dX4_parse_66 : decode cX4_parse 66 = .ok (.invokevirtual 50, 3) := by decide +kernel
theorem dX4_parse_69 : decode cX4_parse 69 = .ok (.istore 4, 2) := by decide +kernel
theorem dX4_parse_71 : decode cX4_parse 71 = .ok (.iload_n 3, 1) := by decide +kernel
theorem dX4_parse_72 : decode cX4_parse 72 = .ok (.ifCond .eq 7, 3) := by decide +kernel
theorem dX4_parse_75 : decode cX4_parse 75 = .ok (.iload_n 2, 1) := by decide +kernel
theorem dX4_parse_76 : decode cX4_parse 76 = .ok (.ifCond .eq 58, 3) := by decide +kernel
theorem dX4_parse_79 : decode cX4_parse 79 = .ok (.iconst 0, 1) := by decide +kernel
theorem dX4_parse_80 : decode cX4_parse 80 = .ok (.istore 5, 2) := by decide +kernel
theorem dX4_parse_82 : decode cX4_parse 82 = .ok (.iload 5, 2) := by decide +kernel
theorem dX4_parse_84 : decode cX4_parse 84 = .ok (.sipush 388, 3) := by decide +kernel
theorem dX4_parse_87 : decode cX4_parse 87 = .ok (.if_icmp .ge 23, 3) := by decide +kernel
theorem dX4_parse_90 : decode cX4_parse 90 = .ok (.aload_n 0, 1) := by decide +kernel
theorem dX4_parse_91 : decode cX4_parse 91 = .ok (.getfield 7, 3) := by decide +kernel
theorem dX4_parse_94 : decode cX4_parse 94 = .ok (.iload 5, 2) := by decide +kernel
theorem dX4_parse_96 : decode cX4_parse 96 = .ok (.aload_n 0, 1) := by decide +kernel
theorem dX4_parse_97 : decode cX4_parse 97 = .ok (.getfield 16, 3) := by decide +kernel
theorem dX4_parse_100 : decode cX4_parse 100 = .ok (.iload 5, 2) := by decide +kernel
theorem dX4_parse_102 : decode cX4_parse 102 = .ok (.iaload, 1) := by decide +kernel
theorem dX4_parse_103 : decode cX4_parse 103 = .ok (.iastore, 1) := by decide +kernel
theorem dX4_parse_104 : decode cX4_parse 104 = .ok (.iinc 5 1, 3) := by decide +kernel
theorem dX4_parse_107 : decode cX4_parse 107 = .ok (.goto (-25), 3) := by decide +kernel
theorem dX4_parse_110 : decode cX4_parse 110 = .ok (.iload_n 3, 1) := by decide +kernel
theorem dX4_parse_111 : decode cX4_parse 111 = .ok (.ifCond .eq 11, 3) := by decide +kernel
theorem dX4_parse_114 : decode cX4_parse 114 = .ok (.aload_n 0, 1) := by decide +kernel
theorem dX4_parse_115 : decode cX4_parse 115 = .ok (.iconst 2, 1) := by decide +kernel
theorem dX4_parse_116 : decode cX4_parse 116 = .ok (.invokevirtual 79, 3) := by decide +kernel
theorem dX4_parse_119 : decode cX4_parse 119 = .ok (.goto 14, 3) := by decide +kernel
theorem dX4_parse_122 : decode cX4_parse 122 = .ok (.aload_n 0, 1) := by decide +kernel
theorem dX4_parse_123 : decode cX4_parse 123 = .ok (.bipush (-10), 2) := by decide +kernel
theorem dX4_parse_125 : decode cX4_parse 125 = .ok (.aload_n 0, 1) := by decide +kernel
theorem dX4_parse_126 : decode cX4_parse 126 = .ok (.getfield 152, 3) := by decide +kernel
theorem dX4_parse_129 : decode cX4_parse 129 = .ok (.isub, 1) := by decide +kernel
theorem dX4_parse_130 : decode cX4_parse 130 = .ok (.invokevirtual 38, 3) := by decide +kernel
theorem dX4_parse_133 : decode cX4_parse 133 = .ok (.ireturn, 1) := by decide +kernel
theorem dX4_parse_134 : decode cX4_parse 134 = .ok (.aload_n 0, 1) := by decide +kernel
theorem dX4_parse_135 : decode cX4_parse 135 = .ok (.iload 4, 2) := by decide +kernel
theorem dX4_parse_137 : decode cX4_parse 137 = .ok (.invokevirtual 98, 3) := by decide +kernel
theorem dX4_parse_140 : decode cX4_parse 140 = .ok (.ireturn, 1) := by decide +kernel
set_option maxRecDepth 20000 in
theorem ggX4_undo_X4_fails : GoodIn wsX4_undo wsX4_fails := goodIn_r _ [8, 9, 14, 15, 16, 17, 18, 19, 20, 21, 22, 23, 24] (by decide +kernel) (by decide +kernel)
set_option maxRecDepth 20000 in
theorem gX4_undo_X4_fails : GoodIn wsX4_undo (wsV RX4 79 RX4 yX4_fails wsX4_fails) := goodIn_app (goodIn_of _ (by decide +kernel)) ggX4_undo_X4_fails
set_option maxRecDepth 20000 in
theorem ggX4_undo_X4_tells : GoodIn wsX4_undo wsX4_tells := goodIn_r _ [13, 9, 14, 15, 16, 17, 18, 19, 20, 21, 22, 23, 24] (by decide +kernel) (by decide +kernel)
set_option maxRecDepth 20000 in
theorem gX4_undo_X4_tells : GoodIn wsX4_undo (wsV RX4 38 RX4 yX4_tells wsX4_tells) := goodIn_app (goodIn_of _ (by decide +kernel)) ggX4_undo_X4_tells
theorem dX4_undo_0 : decode cX4_undo 0 = .ok (.aload_n 0, 1) := by decide +kernel
theorem dX4_undo_1 : decode cX4_undo 1 = .ok (.getfield 35, 3) := by decide +kernel
theorem dX4_undo_4 : decode cX4_undo 4 = .ok (.ifCond .ne 9, 3) := by decide +kernel
theorem dX4_undo_7 : decode cX4_undo 7 = .ok (.aload_n 0, 1) := by decide +kernel
theorem dX4_undo_8 : decode cX4_undo 8 = .ok (.iconst 1, 1) := by decide +kernel
theorem dX4_undo_9 : decode cX4_undo 9 = .ok (.invokevirtual 79, 3) := by decide +kernel
theorem dX4_undo_12 : decode cX4_undo 12 = .ok (.ireturn, 1) := by decide +kernel
theorem dX4_undo_13 : decode cX4_undo 13 = .ok (.aload_n 0, 1) := by decide +kernel
theorem dX4_undo_14 : decode cX4_undo 14 = .ok (.dup, 1) := by decide +kernel
theorem dX4_undo_15 : decode cX4_undo 15 = .ok (.getfield 35, 3) := by decide +kernel
theorem dX4_undo_18 : decode cX4_undo 18 = .ok (.iconst 1, 1) := by decide +kernel
theorem dX4_undo_19 : decode cX4_undo 19 = .ok (.isub, 1) := by decide +kernel
theorem dX4_undo_20 : decode cX4_undo 20 = .ok (.putfield 35, 3) := by decide +kernel
theorem dX4_undo_23 : decode cX4_undo 23 = .ok (.iconst 0, 1) := by decide +kernel
theorem dX4_undo_24 : decode cX4_undo 24 = .ok (.istore_n 1, 1) := by decide +kernel
theorem dX4_undo_25 : decode cX4_undo 25 = .ok (.iload_n 1, 1) := by decide +kernel
theorem dX4_undo_26 : decode cX4_undo 26 = .ok (.sipush 388, 3) := by decide +kernel
theorem dX4_undo_29 : decode cX4_undo 29 = .ok (.if_icmp .ge 30, 3) := by decide +kernel
theorem dX4_undo_32 : decode cX4_undo 32 = .ok (.aload_n 0, 1) := by decide +kernel
theorem dX4_undo_33 : decode cX4_undo 33 = .ok (.getfield 7, 3) := by decide +kernel
theorem dX4_undo_36 : decode cX4_undo 36 = .ok (.iload_n 1, 1) := by decide +kernel
theorem dX4_undo_37 : decode cX4_undo 37 = .ok (.aload_n 0, 1) := by decide +kernel
theorem dX4_undo_38 : decode cX4_undo 38 = .ok (.getfield 13, 3) := by decide +kernel
theorem dX4_undo_41 : decode cX4_undo 41 = .ok (.sipush 388, 3) := by decide +kernel
theorem dX4_undo_44 : decode cX4_undo 44 = .ok (.aload_n 0, 1) := by decide +kernel
theorem dX4_undo_45 : decode cX4_undo 45 = .ok (.getfield 35, 3) := by decide +kernel
theorem dX4_undo_48 : decode cX4_undo 48 = .ok (.imul, 1) := by decide +kernel
theorem dX4_undo_49 : decode cX4_undo 49 = .ok (.iload_n 1, 1) := by decide +kernel
theorem dX4_undo_50 : decode cX4_undo 50 = .ok (.iadd, 1) := by decide +kernel
theorem dX4_undo_51 : decode cX4_undo 51 = .ok (.iaload, 1) := by decide +kernel
theorem dX4_undo_52 : decode cX4_undo 52 = .ok (.iastore, 1) := by decide +kernel
theorem dX4_undo_53 : decode cX4_undo 53 = .ok (.iinc 1 1, 3) := by decide +kernel
theorem dX4_undo_56 : decode cX4_undo 56 = .ok (.goto (-31), 3) := by decide +kernel
theorem dX4_undo_59 : decode cX4_undo 59 = .ok (.aload_n 0, 1) := by decide +kernel
theorem dX4_undo_60 : decode cX4_undo 60 = .ok (.aload_n 0, 1) := by decide +kernel
theorem dX4_undo_61 : decode cX4_undo 61 = .ok (.getfield 35, 3) := by decide +kernel
theorem dX4_undo_64 : decode cX4_undo 64 = .ok (.invokevirtual 38, 3) := by decide +kernel
theorem dX4_undo_67 : decode cX4_undo 67 = .ok (.ireturn, 1) := by decide +kernel
set_option maxRecDepth 20000 in
theorem ggX4_digest_X4_many : GoodIn wsX4_digest wsX4_many := goodIn_r _ [10, 11, 37, 38, 39, 40, 41, 42, 43, 44, 45, 46, 47] (by decide +kernel) (by decide +kernel)
set_option maxRecDepth 20000 in
theorem gX4_digest_X4_many : GoodIn wsX4_digest (wsV RX4 50 RX4 yX4_many wsX4_many) := goodIn_app (goodIn_of _ (by decide +kernel)) ggX4_digest_X4_many
set_option maxRecDepth 20000 in
theorem ggX4_digest_X4_keyOf : GoodIn wsX4_digest wsX4_keyOf := goodIn_r _ [15, 16, 17, 18, 9, 19, 11, 20, 21, 22, 23, 24, 25, 26, 6, 7, 8, 10, 37, 38, 39, 40, 41, 42, 43, 44, 45, 46, 47] (by decide +kernel) (by decide +kernel)
set_option maxRecDepth 20000 in
theorem gX4_digest_X4_keyOf : GoodIn wsX4_digest (wsV RX4 137 RX4 yX4_keyOf wsX4_keyOf) := goodIn_app (goodIn_of _ (by decide +kernel)) ggX4_digest_X4_keyOf
set_option maxRecDepth 20000 in
theorem ggX4_digest_X4_valueAt : GoodIn wsX4_digest wsX4_valueAt := goodIn_r _ [30, 31, 32, 33, 34, 35, 36, 6, 7, 8, 9, 10, 11, 16, 17, 18, 19, 20, 21, 22, 23, 24, 25, 26, 37, 38, 39, 40, 41, 42, 43, 44, 45, 46, 47] (by decide +kernel) (by decide +kernel)
set_option maxRecDepth 20000 in
theorem gX4_digest_X4_valueAt : GoodIn wsX4_digest (wsV RX4 76 RX4 yX4_valueAt wsX4_valueAt) := goodIn_app (goodIn_of _ (by decide +kernel)) ggX4_digest_X4_valueAt
theorem dX4_digest_0 : decode cX4_digest 0 = .ok (.aload_n 0, 1) := by decide +kernel
theorem dX4_digest_1 : decode cX4_digest 1 = .ok (.iconst 0, 1) := by decide +kernel
theorem dX4_digest_2 : decode cX4_digest 2 = .ok (.putfield 32, 3) := by decide +kernel
theorem dX4_digest_5 : decode cX4_digest 5 = .ok (.ldc2_w 170, 3) := by decide +kernel
theorem dX4_digest_8 : decode cX4_digest 8 = .ok (.aload_n 0, 1) := by decide +kernel
theorem dX4_digest_9 : decode cX4_digest 9 = .ok (.getfield 28, 3) := by decide +kernel
theorem dX4_digest_12 : decode cX4_digest 12 = .ok (.i2l, 1) := by decide +kernel
theorem dX4_digest_13 : decode cX4_digest 13 = .ok (.ladd, 1) := by decide +kernel
theorem dX4_digest_14 : decode cX4_digest 14 = .ok (.lstore_n 1, 1) := by decide +kernel
theorem dX4_digest_15 : decode cX4_digest 15 = .ok (.iconst 0, 1) := by decide +kernel
theorem dX4_digest_16 : decode cX4_digest 16 = .ok (.istore_n 3, 1) := by decide +kernel
theorem dX4_digest_17 : decode cX4_digest 17 = .ok (.iload_n 3, 1) := by decide +kernel
theorem dX4_digest_18 : decode cX4_digest 18 = .ok (.iconst 4, 1) := by decide +kernel
theorem dX4_digest_19 : decode cX4_digest 19 = .ok (.if_icmp .ge 99, 3) := by decide +kernel
theorem dX4_digest_22 : decode cX4_digest 22 = .ok (.ldc2_w 172, 3) := by decide +kernel
theorem dX4_digest_25 : decode cX4_digest 25 = .ok (.lload_n 1, 1) := by decide +kernel
theorem dX4_digest_26 : decode cX4_digest 26 = .ok (.lmul, 1) := by decide +kernel
theorem dX4_digest_27 : decode cX4_digest 27 = .ok (.aload_n 0, 1) := by decide +kernel
theorem dX4_digest_28 : decode cX4_digest 28 = .ok (.iload_n 3, 1) := by decide +kernel
theorem dX4_digest_29 : decode cX4_digest 29 = .ok (.invokevirtual 50, 3) := by decide +kernel
theorem dX4_digest_32 : decode cX4_digest 32 = .ok (.i2l, 1) := by decide +kernel
theorem dX4_digest_33 : decode cX4_digest 33 = .ok (.ladd, 1) := by decide +kernel
theorem dX4_digest_34 : decode cX4_digest 34 = .ok (.lstore_n 1, 1) := by decide +kernel
theorem dX4_digest_35 : decode cX4_digest 35 = .ok (.iconst 0, 1) := by decide +kernel
theorem dX4_digest_36 : decode cX4_digest 36 = .ok (.istore 4, 2) := by decide +kernel
theorem dX4_digest_38 : decode cX4_digest 38 = .ok (.iload 4, 2) := by decide +kernel
theorem dX4_digest_40 : decode cX4_digest 40 = .ok (.bipush 7, 2) := by decide +kernel
theorem dX4_digest_42 : decode cX4_digest 42 = .ok (.aload_n 0, 1) := by decide +kernel
theorem dX4_digest_43 : decode cX4_digest 43 = .ok (.iload_n 3, 1) := by decide +kernel
theorem dX4_digest_44 : decode cX4_digest 44 = .ok (.invokevirtual 50, 3) := by decide +kernel
theorem dX4_digest_47 : decode cX4_digest 47 = .ok (.imul, 1) := by decide +kernel
theorem dX4_digest_48 : decode cX4_digest 48 = .ok (.if_icmp .ge 32, 3) := by decide +kernel
theorem dX4_digest_51 : decode cX4_digest 51 = .ok (.ldc2_w 172, 3) := by decide +kernel
theorem dX4_digest_54 : decode cX4_digest 54 = .ok (.lload_n 1, 1) := by decide +kernel
theorem dX4_digest_55 : decode cX4_digest 55 = .ok (.lmul, 1) := by decide +kernel
theorem dX4_digest_56 : decode cX4_digest 56 = .ok (.aload_n 0, 1) := by decide +kernel
theorem dX4_digest_57 : decode cX4_digest 57 = .ok (.iload_n 3, 1) := by decide +kernel
theorem dX4_digest_58 : decode cX4_digest 58 = .ok (.iload 4, 2) := by decide +kernel
theorem dX4_digest_60 : decode cX4_digest 60 = .ok (.bipush 7, 2) := by decide +kernel
theorem dX4_digest_62 : decode cX4_digest 62 = .ok (.idiv, 1) := by decide +kernel
theorem dX4_digest_63 : decode cX4_digest 63 = .ok (.iload 4, 2) := by decide +kernel
theorem dX4_digest_65 : decode cX4_digest 65 = .ok (.bipush 7, 2) := by decide +kernel
theorem dX4_digest_67 : decode cX4_digest 67 = .ok (.irem, 1) := by decide +kernel
theorem dX4_digest_68 : decode cX4_digest 68 = .ok (.invokevirtual 137, 3) := by decide +kernel
theorem dX4_digest_71 : decode cX4_digest 71 = .ok (.i2l, 1) := by decide +kernel
theorem dX4_digest_72 : decode cX4_digest 72 = .ok (.ladd, 1) := by decide +kernel
theorem dX4_digest_73 : decode cX4_digest 73 = .ok (.lstore_n 1, 1) := by decide +kernel
theorem dX4_digest_74 : decode cX4_digest 74 = .ok (.iinc 4 1, 3) := by decide +kernel
theorem dX4_digest_77 : decode cX4_digest 77 = .ok (.goto (-39), 3) := by decide +kernel
theorem dX4_digest_80 : decode cX4_digest 80 = .ok (.iconst 0, 1) := by decide +kernel
theorem dX4_digest_81 : decode cX4_digest 81 = .ok (.istore 4, 2) := by decide +kernel
theorem dX4_digest_83 : decode cX4_digest 83 = .ok (.iload 4, 2) := by decide +kernel
theorem dX4_digest_85 : decode cX4_digest 85 = .ok (.sipush 999, 3) := by decide +kernel
theorem dX4_digest_88 : decode cX4_digest 88 = .ok (.if_icmp .gt 24, 3) := by decide +kernel
theorem dX4_digest_91 : decode cX4_digest 91 = .ok (.ldc2_w 172, 3) := by decide +kernel
theorem dX4_digest_94 : decode cX4_digest 94 = .ok (.lload_n 1, 1) := by decide +kernel
theorem dX4_digest_95 : decode cX4_digest 95 = .ok (.lmul, 1) := by decide +kernel
theorem dX4_digest_96 : decode cX4_digest 96 = .ok (.aload_n 0, 1) := by decide +kernel
theorem dX4_digest_97 : decode cX4_digest 97 = .ok (.iload_n 3, 1) := by decide +kernel
theorem dX4_digest_98 : decode cX4_digest 98 = .ok (.iload 4, 2) := by decide +kernel
theorem dX4_digest_100 : decode cX4_digest 100 = .ok (.invokevirtual 76, 3) := by decide +kernel
theorem dX4_digest_103 : decode cX4_digest 103 = .ok (.i2l, 1) := by decide +kernel
theorem dX4_digest_104 : decode cX4_digest 104 = .ok (.ladd, 1) := by decide +kernel
theorem dX4_digest_105 : decode cX4_digest 105 = .ok (.lstore_n 1, 1) := by decide +kernel
theorem dX4_digest_106 : decode cX4_digest 106 = .ok (.iinc 4 37, 3) := by decide +kernel
theorem dX4_digest_109 : decode cX4_digest 109 = .ok (.goto (-26), 3) := by decide +kernel
theorem dX4_digest_112 : decode cX4_digest 112 = .ok (.iinc 3 1, 3) := by decide +kernel
theorem dX4_digest_115 : decode cX4_digest 115 = .ok (.goto (-98), 3) := by decide +kernel
theorem dX4_digest_118 : decode cX4_digest 118 = .ok (.ldc2_w 172, 3) := by decide +kernel
theorem dX4_digest_121 : decode cX4_digest 121 = .ok (.lload_n 1, 1) := by decide +kernel
theorem dX4_digest_122 : decode cX4_digest 122 = .ok (.lmul, 1) := by decide +kernel
theorem dX4_digest_123 : decode cX4_digest 123 = .ok (.aload_n 0, 1) := by decide +kernel
theorem dX4_digest_124 : decode cX4_digest 124 = .ok (.getfield 35, 3) := by decide +kernel
theorem dX4_digest_127 : decode cX4_digest 127 = .ok (.i2l, 1) := by decide +kernel
theorem dX4_digest_128 : decode cX4_digest 128 = .ok (.ladd, 1) := by decide +kernel
theorem dX4_digest_129 : decode cX4_digest 129 = .ok (.lreturn, 1) := by decide +kernel
