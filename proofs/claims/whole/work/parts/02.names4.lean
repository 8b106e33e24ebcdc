theorem dX10_as_50 : decode cX10_as 50 = .ok (.iconst 0, 1) := by decide +kernel
theorem dX10_as_51 : decode cX10_as 51 = .ok (.putfield 59, 3) := by decide +kernel
theorem dX10_as_54 : decode cX10_as 54 = .ok (.iconst 1, 1) := by decide +kernel
theorem dX10_as_55 : decode cX10_as 55 = .ok (.ireturn, 1) := by decide +kernel
theorem dX10_trace_0 : decode cX10_trace 0 = .ok (.aload_n 0, 1) := by decide +kernel
theorem dX10_trace_1 : decode cX10_trace 1 = .ok (.getfield 51, 3) := by decide +kernel
theorem dX10_trace_4 : decode cX10_trace 4 = .ok (.getfield 259, 3) := by decide +kernel
theorem dX10_trace_7 : decode cX10_trace 7 = .ok (.ireturn, 1) := by decide +kernel
theorem dX10_fault_0 : decode cX10_fault 0 = .ok (.aload_n 0, 1) := by decide +kernel
theorem dX10_fault_1 : decode cX10_fault 1 = .ok (.getfield 59, 3) := by decide +kernel
theorem dX10_fault_4 : decode cX10_fault 4 = .ok (.ireturn, 1) := by decide +kernel
theorem dX10_many_0 : decode cX10_many 0 = .ok (.iload_n 1, 1) := by decide +kernel
theorem dX10_many_1 : decode cX10_many 1 = .ok (.tableswitch 63 0 3 #[31, 39, 47, 55], 31) := by decide +kernel
theorem dX10_many_32 : decode cX10_many 32 = .ok (.aload_n 0, 1) := by decide +kernel
theorem dX10_many_33 : decode cX10_many 33 = .ok (.getfield 21, 3) := by decide +kernel
theorem dX10_many_36 : decode cX10_many 36 = .ok (.getfield 98, 3) := by decide +kernel
theorem dX10_many_39 : decode cX10_many 39 = .ok (.ireturn, 1) := by decide +kernel
theorem dX10_many_40 : decode cX10_many 40 = .ok (.aload_n 0, 1) := by decide +kernel
theorem dX10_many_41 : decode cX10_many 41 = .ok (.getfield 44, 3) := by decide +kernel
theorem dX10_many_44 : decode cX10_many 44 = .ok (.getfield 143, 3) := by decide +kernel
theorem dX10_many_47 : decode cX10_many 47 = .ok (.ireturn, 1) := by decide +kernel
theorem dX10_many_48 : decode cX10_many 48 = .ok (.aload_n 0, 1) := by decide +kernel
theorem dX10_many_49 : decode cX10_many 49 = .ok (.getfield 44, 3) := by decide +kernel
theorem dX10_many_52 : decode cX10_many 52 = .ok (.getfield 209, 3) := by decide +kernel
theorem dX10_many_55 : decode cX10_many 55 = .ok (.ireturn, 1) := by decide +kernel
theorem dX10_many_56 : decode cX10_many 56 = .ok (.aload_n 0, 1) := by decide +kernel
theorem dX10_many_57 : decode cX10_many 57 = .ok (.getfield 21, 3) := by decide +kernel
theorem dX10_many_60 : decode cX10_many 60 = .ok (.getfield 136, 3) := by decide +kernel
theorem dX10_many_63 : decode cX10_many 63 = .ok (.ireturn, 1) := by decide +kernel
theorem dX10_many_64 : decode cX10_many 64 = .ok (.bipush (-2), 2) := by decide +kernel
theorem dX10_many_66 : decode cX10_many 66 = .ok (.ireturn, 1) := by decide +kernel
theorem dX10_refused_0 : decode cX10_refused 0 = .ok (.aload_n 0, 1) := by decide +kernel
theorem dX10_refused_1 : decode cX10_refused 1 = .ok (.iconst 0, 1) := by decide +kernel
theorem dX10_refused_2 : decode cX10_refused 2 = .ok (.putfield 59, 3) := by decide +kernel
theorem dX10_refused_5 : decode cX10_refused 5 = .ok (.iload_n 1, 1) := by decide +kernel
theorem dX10_refused_6 : decode cX10_refused 6 = .ok (.ireturn, 1) := by decide +kernel
theorem dX10_failed_0 : decode cX10_failed 0 = .ok (.aload_n 0, 1) := by decide +kernel
theorem dX10_failed_1 : decode cX10_failed 1 = .ok (.iload_n 1, 1) := by decide +kernel
theorem dX10_failed_2 : decode cX10_failed 2 = .ok (.putfield 59, 3) := by decide +kernel
theorem dX10_failed_5 : decode cX10_failed 5 = .ok (.bipush (-10), 2) := by decide +kernel
theorem dX10_failed_7 : decode cX10_failed 7 = .ok (.iload_n 1, 1) := by decide +kernel
theorem dX10_failed_8 : decode cX10_failed 8 = .ok (.isub, 1) := by decide +kernel
theorem dX10_failed_9 : decode cX10_failed 9 = .ok (.ireturn, 1) := by decide +kernel
theorem dX10_noShip_0 : decode cX10_noShip 0 = .ok (.aload_n 0, 1) := by decide +kernel
theorem dX10_noShip_1 : decode cX10_noShip 1 = .ok (.getfield 21, 3) := by decide +kernel
theorem dX10_noShip_4 : decode cX10_noShip 4 = .ok (.getfield 98, 3) := by decide +kernel
theorem dX10_noShip_7 : decode cX10_noShip 7 = .ok (.ifCond .ne 7, 3) := by decide +kernel
theorem dX10_noShip_10 : decode cX10_noShip 10 = .ok (.iconst 1, 1) := by decide +kernel
theorem dX10_noShip_11 : decode cX10_noShip 11 = .ok (.goto 4, 3) := by decide +kernel
theorem dX10_noShip_14 : decode cX10_noShip 14 = .ok (.iconst 0, 1) := by decide +kernel
theorem dX10_noShip_15 : decode cX10_noShip 15 = .ok (.ireturn, 1) := by decide +kernel
theorem dX10_sheetAt_0 : decode cX10_sheetAt 0 = .ok (.iload_n 1, 1) := by decide +kernel
theorem dX10_sheetAt_1 : decode cX10_sheetAt 1 = .ok (.ifCond .lt 8, 3) := by decide +kernel
theorem dX10_sheetAt_4 : decode cX10_sheetAt 4 = .ok (.iload_n 1, 1) := by decide +kernel
theorem dX10_sheetAt_5 : decode cX10_sheetAt 5 = .ok (.iconst 4, 1) := by decide +kernel
theorem dX10_sheetAt_6 : decode cX10_sheetAt 6 = .ok (.if_icmp .lt 7, 3) := by decide +kernel
theorem dX10_sheetAt_9 : decode cX10_sheetAt 9 = .ok (.aconst_null, 1) := by decide +kernel
theorem dX10_sheetAt_10 : decode cX10_sheetAt 10 = .ok (.goto 9, 3) := by decide +kernel
theorem dX10_sheetAt_13 : decode cX10_sheetAt 13 = .ok (.aload_n 0, 1) := by decide +kernel
theorem dX10_sheetAt_14 : decode cX10_sheetAt 14 = .ok (.getfield 13, 3) := by decide +kernel
theorem dX10_sheetAt_17 : decode cX10_sheetAt 17 = .ok (.iload_n 1, 1) := by decide +kernel
theorem dX10_sheetAt_18 : decode cX10_sheetAt 18 = .ok (.aaload, 1) := by decide +kernel
theorem dX10_sheetAt_19 : decode cX10_sheetAt 19 = .ok (.areturn, 1) := by decide +kernel
set_option maxRecDepth 20000 in
theorem ggX10_mayTrade_X10_withBitsChanged : GoodIn wsX10_mayTrade wsX10_withBitsChanged := goodIn_r _ [8, 9, 10, 7, 11] (by decide +kernel) (by decide +kernel)
set_option maxRecDepth 20000 in
theorem gX10_mayTrade_X10_withBitsChanged : GoodIn wsX10_mayTrade (va_wsS RX10 262 yX10_withBitsChanged wsX10_withBitsChanged) := goodIn_app (goodIn_of _ (by decide +kernel)) ggX10_mayTrade_X10_withBitsChanged
set_option maxRecDepth 20000 in
theorem ggX10_mayTrade_X3_firstWrong : GoodIn wsX10_mayTrade wsX3_firstWrong := goodIn_r _ [16, 17, 18, 19, 20, 21, 22, 15, 23, 24, 25, 26, 27, 28, 29, 30, 31, 32, 33, 34, 35, 36, 37, 38, 39, 40, 41, 42, 10, 7, 11, 43, 44, 45, 46, 47, 48, 49, 50, 51, 52, 53, 54, 55, 56, 57, 58, 59, 60, 61, 62, 63, 64, 65, 66, 67, 68, 69, 70, 71, 72, 88, 89, 90, 91, 92, 81, 82, 83, 84, 85, 86, 87, 93, 94, 95, 96, 97, 98, 99, 100, 101] (by decide +kernel) (by decide +kernel)
set_option maxRecDepth 20000 in
theorem gX10_mayTrade_X3_firstWrong : GoodIn wsX10_mayTrade (wsV RX10 159 RX3 yX3_firstWrong wsX3_firstWrong) := goodIn_app (goodIn_of _ (by decide +kernel)) ggX10_mayTrade_X3_firstWrong
theorem dX10_mayTrade_0 : decode cX10_mayTrade 0 = .ok (.iconst 0, 1) := by decide +kernel
theorem dX10_mayTrade_1 : decode cX10_mayTrade 1 = .ok (.istore_n 3, 1) := by decide +kernel
theorem dX10_mayTrade_2 : decode cX10_mayTrade 2 = .ok (.iload_n 3, 1) := by decide +kernel
theorem dX10_mayTrade_3 : decode cX10_mayTrade 3 = .ok (.bipush 12, 2) := by decide +kernel
theorem dX10_mayTrade_5 : decode cX10_mayTrade 5 = .ok (.if_icmp .ge 29, 3) := by decide +kernel
theorem dX10_mayTrade_8 : decode cX10_mayTrade 8 = .ok (.aload_n 0, 1) := by decide +kernel
theorem dX10_mayTrade_9 : decode cX10_mayTrade 9 = .ok (.getfield 55, 3) := by decide +kernel
theorem dX10_mayTrade_12 : decode cX10_mayTrade 12 = .ok (.iload_n 3, 1) := by decide +kernel
theorem dX10_mayTrade_13 : decode cX10_mayTrade 13 = .ok (.aload_n 0, 1) := by decide +kernel
theorem dX10_mayTrade_14 : decode cX10_mayTrade 14 = .ok (.getfield 21, 3) := by decide +kernel
theorem dX10_mayTrade_17 : decode cX10_mayTrade 17 = .ok (.getfield 126, 3) := by decide +kernel
theorem dX10_mayTrade_20 : decode cX10_mayTrade 20 = .ok (.iload_n 3, 1) := by decide +kernel
theorem dX10_mayTrade_21 : decode cX10_mayTrade 21 = .ok (.iaload, 1) := by decide +kernel
theorem dX10_mayTrade_22 : decode cX10_mayTrade 22 = .ok (.iload_n 1, 1) := by decide +kernel
theorem dX10_mayTrade_23 : decode cX10_mayTrade 23 = .ok (.iload_n 2, 1) := by decide +kernel
theorem dX10_mayTrade_24 : decode cX10_mayTrade 24 = .ok (.invokestatic 262, 3) := by decide +kernel
theorem dX10_mayTrade_27 : decode cX10_mayTrade 27 = .ok (.iastore, 1) := by decide +kernel
theorem dX10_mayTrade_28 : decode cX10_mayTrade 28 = .ok (.iinc 3 1, 3) := by decide +kernel
theorem dX10_mayTrade_31 : decode cX10_mayTrade 31 = .ok (.goto (-29), 3) := by decide +kernel
theorem dX10_mayTrade_34 : decode cX10_mayTrade 34 = .ok (.aload_n 0, 1) := by decide +kernel
theorem dX10_mayTrade_35 : decode cX10_mayTrade 35 = .ok (.getfield 30, 3) := by decide +kernel
theorem dX10_mayTrade_38 : decode cX10_mayTrade 38 = .ok (.aload_n 0, 1) := by decide +kernel
theorem dX10_mayTrade_39 : decode cX10_mayTrade 39 = .ok (.getfield 55, 3) := by decide +kernel
theorem dX10_mayTrade_42 : decode cX10_mayTrade 42 = .ok (.bipush 12, 2) := by decide +kernel
theorem dX10_mayTrade_44 : decode cX10_mayTrade 44 = .ok (.iconst 1, 1) := by decide +kernel
theorem dX10_mayTrade_45 : decode cX10_mayTrade 45 = .ok (.iconst 1, 1) := by decide +kernel
theorem dX10_mayTrade_46 : decode cX10_mayTrade 46 = .ok (.invokevirtual 159, 3) := by decide +kernel
theorem dX10_mayTrade_49 : decode cX10_mayTrade 49 = .ok (.bipush (-9), 2) := by decide +kernel
theorem dX10_mayTrade_51 : decode cX10_mayTrade 51 = .ok (.if_icmp .ne 7, 3) := by decide +kernel
theorem dX10_mayTrade_54 : decode cX10_mayTrade 54 = .ok (.iconst 1, 1) := by decide +kernel
theorem dX10_mayTrade_55 : decode cX10_mayTrade 55 = .ok (.goto 4, 3) := by decide +kernel
theorem dX10_mayTrade_58 : decode cX10_mayTrade 58 = .ok (.iconst 0, 1) := by decide +kernel
theorem dX10_mayTrade_59 : decode cX10_mayTrade 59 = .ok (.ireturn, 1) := by decide +kernel
set_option maxRecDepth 20000 in
theorem ggX10_waysThatGoWell_X0_setCount : GoodIn wsX10_waysThatGoWell wsX0_setCount := goodIn_r _ [9, 10, 83, 84, 85, 86, 87, 88, 89] (by decide +kernel) (by decide +kernel)
set_option maxRecDepth 20000 in
theorem gX10_waysThatGoWell_X0_setCount : GoodIn wsX10_waysThatGoWell (wsV RX10 220 RX0 yX0_setCount wsX0_setCount) := goodIn_app (goodIn_of _ (by decide +kernel)) ggX10_waysThatGoWell_X0_setCount
set_option maxRecDepth 20000 in
theorem ggX10_waysThatGoWell_X3_firstWrong : GoodIn wsX10_waysThatGoWell wsX3_firstWrong := goodIn_r _ [15, 16, 17, 18, 19, 20, 21, 14, 22, 23, 24, 25, 26, 27, 28, 29, 30, 31, 32, 33, 34, 35, 36, 37, 38, 39, 40, 41, 42, 43, 44, 45, 46, 47, 48, 49, 50, 51, 52, 53, 54, 55, 56, 57, 58, 59, 60, 61, 62, 63, 64, 65, 66, 67, 68, 69, 70, 71, 72, 73, 74, 90, 91, 92, 93, 94, 83, 84, 85, 86, 87, 88, 89, 95, 96, 97, 98, 99, 100, 101, 102, 103] (by decide +kernel) (by decide +kernel)
set_option maxRecDepth 20000 in
theorem gX10_waysThatGoWell_X3_firstWrong : GoodIn wsX10_waysThatGoWell (wsV RX10 159 RX3 yX3_firstWrong wsX3_firstWrong) := goodIn_app (goodIn_of _ (by decide +kernel)) ggX10_waysThatGoWell_X3_firstWrong
theorem dX10_waysThatGoWell_0 : decode cX10_waysThatGoWell 0 = .ok (.iconst 0, 1) := by decide +kernel
theorem dX10_waysThatGoWell_1 : decode cX10_waysThatGoWell 1 = .ok (.istore_n 2, 1) := by decide +kernel
theorem dX10_waysThatGoWell_2 : decode cX10_waysThatGoWell 2 = .ok (.iconst 0, 1) := by decide +kernel
theorem dX10_waysThatGoWell_3 : decode cX10_waysThatGoWell 3 = .ok (.istore_n 3, 1) := by decide +kernel
theorem dX10_waysThatGoWell_4 : decode cX10_waysThatGoWell 4 = .ok (.iload_n 3, 1) := by decide +kernel
theorem dX10_waysThatGoWell_5 : decode cX10_waysThatGoWell 5 = .ok (.aload_n 0, 1) := by decide +kernel
theorem dX10_waysThatGoWell_6 : decode cX10_waysThatGoWell 6 = .ok (.getfield 21, 3) := by decide +kernel
theorem dX10_waysThatGoWell_9 : decode cX10_waysThatGoWell 9 = .ok (.invokevirtual 220, 3) := by decide +kernel
theorem dX10_waysThatGoWell_12 : decode cX10_waysThatGoWell 12 = .ok (.if_icmp .ge 67, 3) := by decide +kernel
theorem dX10_waysThatGoWell_15 : decode cX10_waysThatGoWell 15 = .ok (.iconst 0, 1) := by decide +kernel
theorem dX10_waysThatGoWell_16 : decode cX10_waysThatGoWell 16 = .ok (.istore 4, 2) := by decide +kernel
theorem dX10_waysThatGoWell_18 : decode cX10_waysThatGoWell 18 = .ok (.iload 4, 2) := by decide +kernel
theorem dX10_waysThatGoWell_20 : decode cX10_waysThatGoWell 20 = .ok (.iload_n 1, 1) := by decide +kernel
theorem dX10_waysThatGoWell_21 : decode cX10_waysThatGoWell 21 = .ok (.if_icmp .gt 28, 3) := by decide +kernel
theorem dX10_waysThatGoWell_24 : decode cX10_waysThatGoWell 24 = .ok (.aload_n 0, 1) := by decide +kernel
theorem dX10_waysThatGoWell_25 : decode cX10_waysThatGoWell 25 = .ok (.getfield 55, 3) := by decide +kernel
theorem dX10_waysThatGoWell_28 : decode cX10_waysThatGoWell 28 = .ok (.iload 4, 2) := by decide +kernel
theorem dX10_waysThatGoWell_30 : decode cX10_waysThatGoWell 30 = .ok (.aload_n 0, 1) := by decide +kernel
theorem dX10_waysThatGoWell_31 : decode cX10_waysThatGoWell 31 = .ok (.getfield 21, 3) := by decide +kernel
theorem dX10_waysThatGoWell_34 : decode cX10_waysThatGoWell 34 = .ok (.getfield 126, 3) := by decide +kernel
theorem dX10_waysThatGoWell_37 : decode cX10_waysThatGoWell 37 = .ok (.iload 4, 2) := by decide +kernel
theorem dX10_waysThatGoWell_39 : decode cX10_waysThatGoWell 39 = .ok (.iaload, 1) := by decide +kernel
theorem dX10_waysThatGoWell_40 : decode cX10_waysThatGoWell 40 = .ok (.iload_n 3, 1) := by decide +kernel
theorem dX10_waysThatGoWell_41 : decode cX10_waysThatGoWell 41 = .ok (.iand, 1) := by decide +kernel
theorem dX10_waysThatGoWell_42 : decode cX10_waysThatGoWell 42 = .ok (.iastore, 1) := by decide +kernel
theorem dX10_waysThatGoWell_43 : decode cX10_waysThatGoWell 43 = .ok (.iinc 4 1, 3) := by decide +kernel
theorem dX10_waysThatGoWell_46 : decode cX10_waysThatGoWell 46 = .ok (.goto (-28), 3) := by decide +kernel
theorem dX10_waysThatGoWell_49 : decode cX10_waysThatGoWell 49 = .ok (.aload_n 0, 1) := by decide +kernel
theorem dX10_waysThatGoWell_50 : decode cX10_waysThatGoWell 50 = .ok (.getfield 30, 3) := by decide +kernel
theorem dX10_waysThatGoWell_53 : decode cX10_waysThatGoWell 53 = .ok (.aload_n 0, 1) := by decide +kernel
theorem dX10_waysThatGoWell_54 : decode cX10_waysThatGoWell 54 = .ok (.getfield 55, 3) := by decide +kernel
theorem dX10_waysThatGoWell_57 : decode cX10_waysThatGoWell 57 = .ok (.iload_n 1, 1) := by decide +kernel
theorem dX10_waysThatGoWell_58 : decode cX10_waysThatGoWell 58 = .ok (.iconst 1, 1) := by decide +kernel
theorem dX10_waysThatGoWell_59 : decode cX10_waysThatGoWell 59 = .ok (.iadd, 1) := by decide +kernel
theorem dX10_waysThatGoWell_60 : decode cX10_waysThatGoWell 60 = .ok (.iconst 1, 1) := by decide +kernel
theorem dX10_waysThatGoWell_61 : decode cX10_waysThatGoWell 61 = .ok (.iconst 0, 1) := by decide +kernel
theorem dX10_waysThatGoWell_62 : decode cX10_waysThatGoWell 62 = .ok (.invokevirtual 159, 3) := by decide +kernel
theorem dX10_waysThatGoWell_65 : decode cX10_waysThatGoWell 65 = .ok (.bipush (-9), 2) := by decide +kernel
theorem dX10_waysThatGoWell_67 : decode cX10_waysThatGoWell 67 = .ok (.if_icmp .ne 6, 3) := by decide +kernel
theorem dX10_waysThatGoWell_70 : decode cX10_waysThatGoWell 70 = .ok (.iinc 2 1, 3) := by decide +kernel
theorem dX10_waysThatGoWell_73 : decode cX10_waysThatGoWell 73 = .ok (.iinc 3 1, 3) := by decide +kernel
theorem dX10_waysThatGoWell_76 : decode cX10_waysThatGoWell 76 = .ok (.goto (-72), 3) := by decide +kernel
theorem dX10_waysThatGoWell_79 : decode cX10_waysThatGoWell 79 = .ok (.iload_n 2, 1) := by decide +kernel
theorem dX10_waysThatGoWell_80 : decode cX10_waysThatGoWell 80 = .ok (.ireturn, 1) := by decide +kernel
theorem dX10_isMonth_0 : decode cX10_isMonth 0 = .ok (.iload_n 0, 1) := by decide +kernel
theorem dX10_isMonth_1 : decode cX10_isMonth 1 = .ok (.ifCond .lt 13, 3) := by decide +kernel
theorem dX10_isMonth_4 : decode cX10_isMonth 4 = .ok (.iload_n 0, 1) := by decide +kernel
theorem dX10_isMonth_5 : decode cX10_isMonth 5 = .ok (.bipush 12, 2) := by decide +kernel
theorem dX10_isMonth_7 : decode cX10_isMonth 7 = .ok (.if_icmp .ge 7, 3) := by decide +kernel
theorem dX10_isMonth_10 : decode cX10_isMonth 10 = .ok (.iconst 1, 1) := by decide +kernel
theorem dX10_isMonth_11 : decode cX10_isMonth 11 = .ok (.goto 4, 3) := by decide +kernel
theorem dX10_isMonth_14 : decode cX10_isMonth 14 = .ok (.iconst 0, 1) := by decide +kernel
theorem dX10_isMonth_15 : decode cX10_isMonth 15 = .ok (.ireturn, 1) := by decide +kernel
theorem dX10_isLane_0 : decode cX10_isLane 0 = .ok (.iload_n 0, 1) := by decide +kernel
theorem dX10_isLane_1 : decode cX10_isLane 1 = .ok (.ifCond .lt 12, 3) := by decide +kernel
theorem dX10_isLane_4 : decode cX10_isLane 4 = .ok (.iload_n 0, 1) := by decide +kernel
theorem dX10_isLane_5 : decode cX10_isLane 5 = .ok (.iconst 3, 1) := by decide +kernel
theorem dX10_isLane_6 : decode cX10_isLane 6 = .ok (.if_icmp .ge 7, 3) := by decide +kernel
theorem dX10_isLane_9 : decode cX10_isLane 9 = .ok (.iconst 1, 1) := by decide +kernel
theorem dX10_isLane_10 : decode cX10_isLane 10 = .ok (.goto 4, 3) := by decide +kernel
theorem dX10_isLane_13 : decode cX10_isLane 13 = .ok (.iconst 0, 1) := by decide +kernel
theorem dX10_isLane_14 : decode cX10_isLane 14 = .ok (.ireturn, 1) := by decide +kernel
theorem dX10_isIn_0 : decode cX10_isIn 0 = .ok (.iload_n 0, 1) := by decide +kernel
theorem dX10_isIn_1 : decode cX10_isIn 1 = .ok (.iload_n 1, 1) := by decide +kernel
theorem dX10_isIn_2 : decode cX10_isIn 2 = .ok (.ishr, 1) := by decide +kernel
theorem dX10_isIn_3 : decode cX10_isIn 3 = .ok (.iconst 1, 1) := by decide +kernel
theorem dX10_isIn_4 : decode cX10_isIn 4 = .ok (.iand, 1) := by decide +kernel
theorem dX10_isIn_5 : decode cX10_isIn 5 = .ok (.iconst 1, 1) := by decide +kernel
theorem dX10_isIn_6 : decode cX10_isIn 6 = .ok (.if_icmp .ne 7, 3) := by decide +kernel
theorem dX10_isIn_9 : decode cX10_isIn 9 = .ok (.iconst 1, 1) := by decide +kernel
theorem dX10_isIn_10 : decode cX10_isIn 10 = .ok (.goto 4, 3) := by decide +kernel
theorem dX10_isIn_13 : decode cX10_isIn 13 = .ok (.iconst 0, 1) := by decide +kernel
theorem dX10_isIn_14 : decode cX10_isIn 14 = .ok (.ireturn, 1) := by decide +kernel
set_option maxRecDepth 20000 in
theorem ggX10_withBitsChanged_X10_isIn : GoodIn wsX10_withBitsChanged wsX10_isIn := goodIn_r _ [4] (by decide +kernel) (by decide +kernel)
set_option maxRecDepth 20000 in
theorem gX10_withBitsChanged_X10_isIn : GoodIn wsX10_withBitsChanged (va_wsS RX10 265 yX10_isIn wsX10_isIn) := goodIn_app (goodIn_of _ (by decide +kernel)) ggX10_withBitsChanged_X10_isIn
theorem dX10_withBitsChanged_0 : decode cX10_withBitsChanged 0 = .ok (.iload_n 0, 1) := by decide +kernel
theorem dX10_withBitsChanged_1 : decode cX10_withBitsChanged 1 = .ok (.iload_n 1, 1) := by decide +kernel
theorem dX10_withBitsChanged_2 : decode cX10_withBitsChanged 2 = .ok (.invokestatic 265, 3) := by decide +kernel
theorem dX10_withBitsChanged_5 : decode cX10_withBitsChanged 5 = .ok (.iload_n 0, 1) := by decide +kernel
theorem dX10_withBitsChanged_6 : decode cX10_withBitsChanged 6 = .ok (.iload_n 2, 1) := by decide +kernel
theorem dX10_withBitsChanged_7 : decode cX10_withBitsChanged 7 = .ok (.invokestatic 265, 3) := by decide +kernel
theorem dX10_withBitsChanged_10 : decode cX10_withBitsChanged 10 = .ok (.if_icmp .ne 7, 3) := by decide +kernel
theorem dX10_withBitsChanged_13 : decode cX10_withBitsChanged 13 = .ok (.iload_n 0, 1) := by decide +kernel
theorem dX10_withBitsChanged_14 : decode cX10_withBitsChanged 14 = .ok (.goto 12, 3) := by decide +kernel
theorem dX10_withBitsChanged_17 : decode cX10_withBitsChanged 17 = .ok (.iload_n 0, 1) := by decide +kernel
theorem dX10_withBitsChanged_18 : decode cX10_withBitsChanged 18 = .ok (.iconst 1, 1) := by decide +kernel
theorem dX10_withBitsChanged_19 : decode cX10_withBitsChanged 19 = .ok (.iload_n 1, 1) := by decide +kernel
theorem dX10_withBitsChanged_20 : decode cX10_withBitsChanged 20 = .ok (.ishl, 1) := by decide +kernel
theorem dX10_withBitsChanged_21 : decode cX10_withBitsChanged 21 = .ok (.iconst 1, 1) := by decide +kernel
theorem dX10_withBitsChanged_22 : decode cX10_withBitsChanged 22 = .ok (.iload_n 2, 1) := by decide +kernel
theorem dX10_withBitsChanged_23 : decode cX10_withBitsChanged 23 = .ok (.ishl, 1) := by decide +kernel
theorem dX10_withBitsChanged_24 : decode cX10_withBitsChanged 24 = .ok (.ior, 1) := by decide +kernel
theorem dX10_withBitsChanged_25 : decode cX10_withBitsChanged 25 = .ok (.ixor, 1) := by decide +kernel
theorem dX10_withBitsChanged_26 : decode cX10_withBitsChanged 26 = .ok (.ireturn, 1) := by decide +kernel
theorem dX10_isOfKind_0 : decode cX10_isOfKind 0 = .ok (.iload_n 1, 1) := by decide +kernel
theorem dX10_isOfKind_1 : decode cX10_isOfKind 1 = .ok (.lookupswitch 37 #[(1, 27), (2, 32)], 27) := by decide +kernel
theorem dX10_isOfKind_28 : decode cX10_isOfKind 28 = .ok (.aload_n 0, 1) := by decide +kernel
theorem dX10_isOfKind_29 : decode cX10_isOfKind 29 = .ok (.instanceof 268, 3) := by decide +kernel
theorem dX10_isOfKind_32 : decode cX10_isOfKind 32 = .ok (.ireturn, 1) := by decide +kernel
theorem dX10_isOfKind_33 : decode cX10_isOfKind 33 = .ok (.aload_n 0, 1) := by decide +kernel
theorem dX10_isOfKind_34 : decode cX10_isOfKind 34 = .ok (.instanceof 270, 3) := by decide +kernel
theorem dX10_isOfKind_37 : decode cX10_isOfKind 37 = .ok (.ireturn, 1) := by decide +kernel
theorem dX10_isOfKind_38 : decode cX10_isOfKind 38 = .ok (.iconst 1, 1) := by decide +kernel
theorem dX10_isOfKind_39 : decode cX10_isOfKind 39 = .ok (.ireturn, 1) := by decide +kernel
theorem dX11_init_0 : decode cX11_init 0 = .ok (.aload_n 0, 1) := by decide +kernel
theorem dX11_init_1 : decode cX11_init 1 = .ok (.invokespecial 1, 3) := by decide +kernel
theorem dX11_init_4 : decode cX11_init 4 = .ok (.aload_n 0, 1) := by decide +kernel
theorem dX11_init_5 : decode cX11_init 5 = .ok (.bipush 6, 2) := by decide +kernel
theorem dX11_init_7 : decode cX11_init 7 = .ok (.newarray .int, 2) := by decide +kernel
theorem dX11_init_9 : decode cX11_init 9 = .ok (.putfield 7, 3) := by decide +kernel
theorem dX11_init_12 : decode cX11_init 12 = .ok (.aload_n 0, 1) := by decide +kernel
theorem dX11_init_13 : decode cX11_init 13 = .ok (.bipush 6, 2) := by decide +kernel
theorem dX11_init_15 : decode cX11_init 15 = .ok (.newarray .int, 2) := by decide +kernel
theorem dX11_init_17 : decode cX11_init 17 = .ok (.putfield 13, 3) := by decide +kernel
theorem dX11_init_20 : decode cX11_init 20 = .ok (.aload_n 0, 1) := by decide +kernel
theorem dX11_init_21 : decode cX11_init 21 = .ok (.bipush 6, 2) := by decide +kernel
theorem dX11_init_23 : decode cX11_init 23 = .ok (.newarray .int, 2) := by decide +kernel
theorem dX11_init_25 : decode cX11_init 25 = .ok (.putfield 16, 3) := by decide +kernel
theorem dX11_init_28 : decode cX11_init 28 = .ok (.aload_n 0, 1) := by decide +kernel
theorem dX11_init_29 : decode cX11_init 29 = .ok (.bipush 12, 2) := by decide +kernel
theorem dX11_init_31 : decode cX11_init 31 = .ok (.newarray .int, 2) := by decide +kernel
theorem dX11_init_33 : decode cX11_init 33 = .ok (.putfield 19, 3) := by decide +kernel
theorem dX11_init_36 : decode cX11_init 36 = .ok (.aload_n 0, 1) := by decide +kernel
theorem dX11_init_37 : decode cX11_init 37 = .ok (.bipush 12, 2) := by decide +kernel
theorem dX11_init_39 : decode cX11_init 39 = .ok (.newarray .int, 2) := by decide +kernel
theorem dX11_init_41 : decode cX11_init 41 = .ok (.putfield 22, 3) := by decide +kernel
theorem dX11_init_44 : decode cX11_init 44 = .ok (.aload_n 0, 1) := by decide +kernel
theorem dX11_init_45 : decode cX11_init 45 = .ok (.bipush 8, 2) := by decide +kernel
theorem dX11_init_47 : decode cX11_init 47 = .ok (.newarray .int, 2) := by decide +kernel
theorem dX11_init_49 : decode cX11_init 49 = .ok (.putfield 25, 3) := by decide +kernel
theorem dX11_init_52 : decode cX11_init 52 = .ok (.aload_n 0, 1) := by decide +kernel
theorem dX11_init_53 : decode cX11_init 53 = .ok (.bipush 8, 2) := by decide +kernel
theorem dX11_init_55 : decode cX11_init 55 = .ok (.newarray .int, 2) := by decide +kernel
theorem dX11_init_57 : decode cX11_init 57 = .ok (.putfield 28, 3) := by decide +kernel
theorem dX11_init_60 : decode cX11_init 60 = .ok (.aload_n 0, 1) := by decide +kernel
theorem dX11_init_61 : decode cX11_init 61 = .ok (.bipush 6, 2) := by decide +kernel
theorem dX11_init_63 : decode cX11_init 63 = .ok (.newarray .int, 2) := by decide +kernel
theorem dX11_init_65 : decode cX11_init 65 = .ok (.putfield 31, 3) := by decide +kernel
theorem dX11_init_68 : decode cX11_init 68 = .ok (.aload_n 0, 1) := by decide +kernel
theorem dX11_init_69 : decode cX11_init 69 = .ok (.bipush 6, 2) := by decide +kernel
theorem dX11_init_71 : decode cX11_init 71 = .ok (.newarray .int, 2) := by decide +kernel
theorem dX11_init_73 : decode cX11_init 73 = .ok (.putfield 34, 3) := by decide +kernel
theorem dX11_init_76 : decode cX11_init 76 = .ok (.aload_n 0, 1) := by decide +kernel
theorem dX11_init_77 : decode cX11_init 77 = .ok (.bipush 6, 2) := by decide +kernel
theorem dX11_init_79 : decode cX11_init 79 = .ok (.newarray .int, 2) := by decide +kernel
theorem dX11_init_81 : decode cX11_init 81 = .ok (.putfield 37, 3) := by decide +kernel
theorem dX11_init_84 : decode cX11_init 84 = .ok (.aload_n 0, 1) := by decide +kernel
theorem dX11_init_85 : decode cX11_init 85 = .ok (.bipush 12, 2) := by decide +kernel
theorem dX11_init_87 : decode cX11_init 87 = .ok (.newarray .int, 2) := by decide +kernel
theorem dX11_init_89 : decode cX11_init 89 = .ok (.putfield 40, 3) := by decide +kernel
theorem dX11_init_92 : decode cX11_init 92 = .ok (.aload_n 0, 1) := by decide +kernel
theorem dX11_init_93 : decode cX11_init 93 = .ok (.bipush 72, 2) := by decide +kernel
theorem dX11_init_95 : decode cX11_init 95 = .ok (.newarray .int, 2) := by decide +kernel
theorem dX11_init_97 : decode cX11_init 97 = .ok (.putfield 43, 3) := by decide +kernel
theorem dX11_init_100 : decode cX11_init 100 = .ok (.aload_n 0, 1) := by decide +kernel
theorem dX11_init_101 : decode cX11_init 101 = .ok (.bipush 72, 2) := by decide +kernel
theorem dX11_init_103 : decode cX11_init 103 = .ok (.newarray .int, 2) := by decide +kernel
theorem dX11_init_105 : decode cX11_init 105 = .ok (.putfield 46, 3) := by decide +kernel
theorem dX11_init_108 : decode cX11_init 108 = .ok (.aload_n 0, 1) := by decide +kernel
theorem dX11_init_109 : decode cX11_init 109 = .ok (.sipush 832, 3) := by decide +kernel
theorem dX11_init_112 : decode cX11_init 112 = .ok (.newarray .int, 2) := by decide +kernel
theorem dX11_init_114 : decode cX11_init 114 = .ok (.putfield 49, 3) := by decide +kernel
theorem dX11_init_117 : decode cX11_init 117 = .ok (.aload_n 0, 1) := by decide +kernel
theorem dX11_init_118 : decode cX11_init 118 = .ok (.sipush 768, 3) := by decide +kernel
theorem dX11_init_121 : decode cX11_init 121 = .ok (.newarray .int, 2) := by decide +kernel
theorem dX11_init_123 : decode cX11_init 123 = .ok (.putfield 52, 3) := by decide +kernel
theorem dX11_init_126 : decode cX11_init 126 = .ok (.aload_n 0, 1) := by decide +kernel
theorem dX11_init_127 : decode cX11_init 127 = .ok (.bipush 6, 2) := by decide +kernel
theorem dX11_init_129 : decode cX11_init 129 = .ok (.newarray .int, 2) := by decide +kernel
theorem dX11_init_131 : decode cX11_init 131 = .ok (.putfield 55, 3) := by decide +kernel
theorem dX11_init_134 : decode cX11_init 134 = .ok (.aload_n 0, 1) := by decide +kernel
theorem dX11_init_135 : decode cX11_init 135 = .ok (.bipush 8, 2) := by decide +kernel
theorem dX11_init_137 : decode cX11_init 137 = .ok (.newarray .int, 2) := by decide +kernel
theorem dX11_init_139 : decode cX11_init 139 = .ok (.putfield 58, 3) := by decide +kernel
theorem dX11_init_142 : decode cX11_init 142 = .ok (.aload_n 0, 1) := by decide +kernel
theorem dX11_init_143 : decode cX11_init 143 = .ok (.bipush 8, 2) := by decide +kernel
theorem dX11_init_145 : decode cX11_init 145 = .ok (.newarray .int, 2) := by decide +kernel
theorem dX11_init_147 : decode cX11_init 147 = .ok (.putfield 61, 3) := by decide +kernel
theorem dX11_init_150 : decode cX11_init 150 = .ok (.aload_n 0, 1) := by decide +kernel
theorem dX11_init_151 : decode cX11_init 151 = .ok (.bipush 8, 2) := by decide +kernel
theorem dX11_init_153 : decode cX11_init 153 = .ok (.newarray .boolean, 2) := by decide +kernel
theorem dX11_init_155 : decode cX11_init 155 = .ok (.putfield 64, 3) := by decide +kernel
theorem dX11_init_158 : decode cX11_init 158 = .ok (.aload_n 0, 1) := by decide +kernel
theorem dX11_init_159 : decode cX11_init 159 = .ok (.iconst 4, 1) := by decide +kernel
theorem dX11_init_160 : decode cX11_init 160 = .ok (.newarray .int, 2) := by decide +kernel
theorem dX11_init_162 : decode cX11_init 162 = .ok (.putfield 68, 3) := by decide +kernel
theorem dX11_init_165 : decode cX11_init 165 = .ok (.aload_n 0, 1) := by decide +kernel
theorem dX11_init_166 : decode cX11_init 166 = .ok (.iconst 4, 1) := by decide +kernel
theorem dX11_init_167 : decode cX11_init 167 = .ok (.newarray .int, 2) := by decide +kernel
theorem dX11_init_169 : decode cX11_init 169 = .ok (.putfield 71, 3) := by decide +kernel
theorem dX11_init_172 : decode cX11_init 172 = .ok (.aload_n 0, 1) := by decide +kernel
theorem dX11_init_173 : decode cX11_init 173 = .ok (.sipush 240, 3) := by decide +kernel
theorem dX11_init_176 : decode cX11_init 176 = .ok (.newarray .int, 2) := by decide +kernel
theorem dX11_init_178 : decode cX11_init 178 = .ok (.putfield 74, 3) := by decide +kernel
theorem dX11_init_181 : decode cX11_init 181 = .ok (.aload_n 0, 1) := by decide +kernel
theorem dX11_init_182 : decode cX11_init 182 = .ok (.bipush 60, 2) := by decide +kernel
theorem dX11_init_184 : decode cX11_init 184 = .ok (.newarray .int, 2) := by decide +kernel
theorem dX11_init_186 : decode cX11_init 186 = .ok (.putfield 77, 3) := by decide +kernel
theorem dX11_init_189 : decode cX11_init 189 = .ok (.iconst 0, 1) := by decide +kernel
theorem dX11_init_190 : decode cX11_init 190 = .ok (.istore_n 1, 1) := by decide +kernel
theorem dX11_init_191 : decode cX11_init 191 = .ok (.iload_n 1, 1) := by decide +kernel
theorem dX11_init_192 : decode cX11_init 192 = .ok (.iconst 4, 1) := by decide +kernel
theorem dX11_init_193 : decode cX11_init 193 = .ok (.if_icmp .ge 16, 3) := by decide +kernel
theorem dX11_init_196 : decode cX11_init 196 = .ok (.aload_n 0, 1) := by decide +kernel
theorem dX11_init_197 : decode cX11_init 197 = .ok (.getfield 68, 3) := by decide +kernel
theorem dX11_init_200 : decode cX11_init 200 = .ok (.iload_n 1, 1) := by decide +kernel
theorem dX11_init_201 : decode cX11_init 201 = .ok (.iconst (-1), 1) := by decide +kernel
theorem dX11_init_202 : decode cX11_init 202 = .ok (.iastore, 1) := by decide +kernel
theorem dX11_init_203 : decode cX11_init 203 = .ok (.iinc 1 1, 3) := by decide +kernel
theorem dX11_init_206 : decode cX11_init 206 = .ok (.goto (-15), 3) := by decide +kernel
theorem dX11_init_209 : decode cX11_init 209 = .ok (.return_, 1) := by decide +kernel
theorem dX11_in_0 : decode cX11_in 0 = .ok (.lload_n 0, 1) := by decide +kernel
theorem dX11_in_1 : decode cX11_in 1 = .ok (.lload_n 2, 1) := by decide +kernel
theorem dX11_in_2 : decode cX11_in 2 = .ok (.lcmp, 1) := by decide +kernel
theorem dX11_in_3 : decode cX11_in 3 = .ok (.ifCond .lt 14, 3) := by decide +kernel
theorem dX11_in_6 : decode cX11_in 6 = .ok (.lload_n 0, 1) := by decide +kernel
theorem dX11_in_7 : decode cX11_in 7 = .ok (.lload 4, 2) := by decide +kernel
theorem dX11_in_9 : decode cX11_in 9 = .ok (.lcmp, 1) := by decide +kernel
theorem dX11_in_10 : decode cX11_in 10 = .ok (.ifCond .gt 7, 3) := by decide +kernel
theorem dX11_in_13 : decode cX11_in 13 = .ok (.iconst 1, 1) := by decide +kernel
theorem dX11_in_14 : decode cX11_in 14 = .ok (.goto 4, 3) := by decide +kernel
theorem dX11_in_17 : decode cX11_in 17 = .ok (.iconst 0, 1) := by decide +kernel
theorem dX11_in_18 : decode cX11_in 18 = .ok (.ireturn, 1) := by decide +kernel
theorem dX11_lost_0 : decode cX11_lost 0 = .ok (.ldc2_w 80, 3) := by decide +kernel
theorem dX11_lost_3 : decode cX11_lost 3 = .ok (.lreturn, 1) := by decide +kernel
theorem dX11_isIn_0 : decode cX11_isIn 0 = .ok (.iload_n 0, 1) := by decide +kernel
theorem dX11_isIn_1 : decode cX11_isIn 1 = .ok (.iload_n 1, 1) := by decide +kernel
theorem dX11_isIn_2 : decode cX11_isIn 2 = .ok (.ishr, 1) := by decide +kernel
theorem dX11_isIn_3 : decode cX11_isIn 3 = .ok (.iconst 1, 1) := by decide +kernel
theorem dX11_isIn_4 : decode cX11_isIn 4 = .ok (.iand, 1) := by decide +kernel
theorem dX11_isIn_5 : decode cX11_isIn 5 = .ok (.iconst 1, 1) := by decide +kernel
theorem dX11_isIn_6 : decode cX11_isIn 6 = .ok (.if_icmp .ne 7, 3) := by decide +kernel
theorem dX11_isIn_9 : decode cX11_isIn 9 = .ok (.iconst 1, 1) := by decide +kernel
theorem dX11_isIn_10 : decode cX11_isIn 10 = .ok (.goto 4, 3) := by decide +kernel
theorem dX11_isIn_13 : decode cX11_isIn 13 = .ok (.iconst 0, 1) := by decide +kernel
theorem dX11_isIn_14 : decode cX11_isIn 14 = .ok (.ireturn, 1) := by decide +kernel
theorem dX11_bits_0 : decode cX11_bits 0 = .ok (.iconst 0, 1) := by decide +kernel
theorem dX11_bits_1 : decode cX11_bits 1 = .ok (.istore_n 1, 1) := by decide +kernel
theorem dX11_bits_2 : decode cX11_bits 2 = .ok (.iload_n 0, 1) := by decide +kernel
theorem dX11_bits_3 : decode cX11_bits 3 = .ok (.istore_n 2, 1) := by decide +kernel
theorem dX11_bits_4 : decode cX11_bits 4 = .ok (.iload_n 2, 1) := by decide +kernel
theorem dX11_bits_5 : decode cX11_bits 5 = .ok (.ifCond .le 16, 3) := by decide +kernel
theorem dX11_bits_8 : decode cX11_bits 8 = .ok (.iload_n 1, 1) := by decide +kernel
theorem dX11_bits_9 : decode cX11_bits 9 = .ok (.iload_n 2, 1) := by decide +kernel
theorem dX11_bits_10 : decode cX11_bits 10 = .ok (.iconst 1, 1) := by decide +kernel
theorem dX11_bits_11 : decode cX11_bits 11 = .ok (.iand, 1) := by decide +kernel
theorem dX11_bits_12 : decode cX11_bits 12 = .ok (.iadd, 1) := by decide +kernel
theorem dX11_bits_13 : decode cX11_bits 13 = .ok (.istore_n 1, 1) := by decide +kernel
theorem dX11_bits_14 : decode cX11_bits 14 = .ok (.iload_n 2, 1) := by decide +kernel
theorem dX11_bits_15 : decode cX11_bits 15 = .ok (.iconst 1, 1) := by decide +kernel
theorem dX11_bits_16 : decode cX11_bits 16 = .ok (.ishr, 1) := by decide +kernel
theorem dX11_bits_17 : decode cX11_bits 17 = .ok (.istore_n 2, 1) := by decide +kernel
theorem dX11_bits_18 : decode cX11_bits 18 = .ok (.goto (-14), 3) := by decide +kernel
theorem dX11_bits_21 : decode cX11_bits 21 = .ok (.iload_n 1, 1) := by decide +kernel
theorem dX11_bits_22 : decode cX11_bits 22 = .ok (.ireturn, 1) := by decide +kernel
theorem dX11_told_0 : decode cX11_told 0 = .ok (.lload_n 0, 1) := by decide +kernel
theorem dX11_told_1 : decode cX11_told 1 = .ok (.lstore 5, 2) := by decide +kernel
theorem dX11_told_3 : decode cX11_told 3 = .ok (.lload_n 2, 1) := by decide +kernel
theorem dX11_told_4 : decode cX11_told 4 = .ok (.lstore 7, 2) := by decide +kernel
theorem dX11_told_6 : decode cX11_told 6 = .ok (.lload 7, 2) := by decide +kernel
theorem dX11_told_8 : decode cX11_told 8 = .ok (.lconst 0, 1) := by decide +kernel
theorem dX11_told_9 : decode cX11_told 9 = .ok (.lcmp, 1) := by decide +kernel
theorem dX11_told_10 : decode cX11_told 10 = .ok (.ifCond .eq 21, 3) := by decide +kernel
theorem dX11_told_13 : decode cX11_told 13 = .ok (.lload 5, 2) := by decide +kernel
theorem dX11_told_15 : decode cX11_told 15 = .ok (.lload 7, 2) := by decide +kernel
theorem dX11_told_17 : decode cX11_told 17 = .ok (.lrem, 1) := by decide +kernel
theorem dX11_told_18 : decode cX11_told 18 = .ok (.lstore 9, 2) := by decide +kernel
theorem dX11_told_20 : decode cX11_told 20 = .ok (.lload 7, 2) := by decide +kernel
theorem dX11_told_22 : decode cX11_told 22 = .ok (.lstore 5, 2) := by decide +kernel
theorem dX11_told_24 : decode cX11_told 24 = .ok (.lload 9, 2) := by decide +kernel
theorem dX11_told_26 : decode cX11_told 26 = .ok (.lstore 7, 2) := by decide +kernel
theorem dX11_told_28 : decode cX11_told 28 = .ok (.goto (-22), 3) := by decide +kernel
theorem dX11_told_31 : decode cX11_told 31 = .ok (.iload 4, 2) := by decide +kernel
theorem dX11_told_33 : decode cX11_told 33 = .ok (.ifCond .ne 7, 3) := by decide +kernel
theorem dX11_told_36 : decode cX11_told 36 = .ok (.lload_n 0, 1) := by decide +kernel
theorem dX11_told_37 : decode cX11_told 37 = .ok (.goto 4, 3) := by decide +kernel
theorem dX11_told_40 : decode cX11_told 40 = .ok (.lload_n 2, 1) := by decide +kernel
theorem dX11_told_41 : decode cX11_told 41 = .ok (.lload 5, 2) := by decide +kernel
theorem dX11_told_43 : decode cX11_told 43 = .ok (.ldiv, 1) := by decide +kernel
theorem dX11_told_44 : decode cX11_told 44 = .ok (.lreturn, 1) := by decide +kernel
theorem dX11_refused_0 : decode cX11_refused 0 = .ok (.aload_n 0, 1) := by decide +kernel
theorem dX11_refused_1 : decode cX11_refused 1 = .ok (.iconst 0, 1) := by decide +kernel
theorem dX11_refused_2 : decode cX11_refused 2 = .ok (.putfield 82, 3) := by decide +kernel
theorem dX11_refused_5 : decode cX11_refused 5 = .ok (.iload_n 1, 1) := by decide +kernel
theorem dX11_refused_6 : decode cX11_refused 6 = .ok (.ireturn, 1) := by decide +kernel
theorem dX11_failed_0 : decode cX11_failed 0 = .ok (.aload_n 0, 1) := by decide +kernel
theorem dX11_failed_1 : decode cX11_failed 1 = .ok (.iload_n 1, 1) := by decide +kernel
theorem dX11_failed_2 : decode cX11_failed 2 = .ok (.putfield 82, 3) := by decide +kernel
theorem dX11_failed_5 : decode cX11_failed 5 = .ok (.bipush (-10), 2) := by decide +kernel
theorem dX11_failed_7 : decode cX11_failed 7 = .ok (.iload_n 1, 1) := by decide +kernel
theorem dX11_failed_8 : decode cX11_failed 8 = .ok (.isub, 1) := by decide +kernel
theorem dX11_failed_9 : decode cX11_failed 9 = .ok (.ireturn, 1) := by decide +kernel
set_option maxRecDepth 20000 in
theorem ggX11_failedLong_X11_lost : GoodIn wsX11_failedLong wsX11_lost := goodIn_r _ [5, 6] (by decide +kernel) (by decide +kernel)
set_option maxRecDepth 20000 in
theorem gX11_failedLong_X11_lost : GoodIn wsX11_failedLong (va_wsS RX11 86 yX11_lost wsX11_lost) := goodIn_app (goodIn_of _ (by decide +kernel)) ggX11_failedLong_X11_lost
theorem dX11_failedLong_0 : decode cX11_failedLong 0 = .ok (.aload_n 0, 1) := by decide +kernel
theorem dX11_failedLong_1 : decode cX11_failedLong 1 = .ok (.iload_n 1, 1) := by decide +kernel
theorem dX11_failedLong_2 : decode cX11_failedLong 2 = .ok (.putfield 82, 3) := by decide +kernel
theorem dX11_failedLong_5 : decode cX11_failedLong 5 = .ok (.invokestatic 86, 3) := by decide +kernel
theorem dX11_failedLong_8 : decode cX11_failedLong 8 = .ok (.lreturn, 1) := by decide +kernel
set_option maxRecDepth 20000 in
theorem ggX11_noSleeper_X11_in : GoodIn wsX11_noSleeper wsX11_in := goodIn_r _ [5] (by decide +kernel) (by decide +kernel)
set_option maxRecDepth 20000 in
theorem gX11_noSleeper_X11_in : GoodIn wsX11_noSleeper (va_wsS RX11 93 yX11_in wsX11_in) := goodIn_app (goodIn_of _ (by decide +kernel)) ggX11_noSleeper_X11_in
theorem dX11_noSleeper_0 : decode cX11_noSleeper 0 = .ok (.iload_n 1, 1) := by decide +kernel
theorem dX11_noSleeper_1 : decode cX11_noSleeper 1 = .ok (.i2l, 1) := by decide +kernel
theorem dX11_noSleeper_2 : decode cX11_noSleeper 2 = .ok (.lconst 0, 1) := by decide +kernel
theorem dX11_noSleeper_3 : decode cX11_noSleeper 3 = .ok (.aload_n 0, 1) := by decide +kernel
theorem dX11_noSleeper_4 : decode cX11_noSleeper 4 = .ok (.getfield 90, 3) := by decide +kernel
theorem dX11_noSleeper_7 : decode cX11_noSleeper 7 = .ok (.i2l, 1) := by decide +kernel
theorem dX11_noSleeper_8 : decode cX11_noSleeper 8 = .ok (.lconst 1, 1) := by decide +kernel
theorem dX11_noSleeper_9 : decode cX11_noSleeper 9 = .ok (.lsub, 1) := by decide +kernel
theorem dX11_noSleeper_10 : decode cX11_noSleeper 10 = .ok (.invokestatic 93, 3) := by decide +kernel
theorem dX11_noSleeper_13 : decode cX11_noSleeper 13 = .ok (.ifCond .ne 7, 3) := by decide +kernel
theorem dX11_noSleeper_16 : decode cX11_noSleeper 16 = .ok (.iconst 1, 1) := by decide +kernel
theorem dX11_noSleeper_17 : decode cX11_noSleeper 17 = .ok (.goto 4, 3) := by decide +kernel
theorem dX11_noSleeper_20 : decode cX11_noSleeper 20 = .ok (.iconst 0, 1) := by decide +kernel
theorem dX11_noSleeper_21 : decode cX11_noSleeper 21 = .ok (.ireturn, 1) := by decide +kernel
set_option maxRecDepth 20000 in
theorem ggX11_isMonth_X11_in : GoodIn wsX11_isMonth wsX11_in := goodIn_r _ [5] (by decide +kernel) (by decide +kernel)
set_option maxRecDepth 20000 in
theorem gX11_isMonth_X11_in : GoodIn wsX11_isMonth (va_wsS RX11 93 yX11_in wsX11_in) := goodIn_app (goodIn_of _ (by decide +kernel)) ggX11_isMonth_X11_in
theorem dX11_isMonth_0 : decode cX11_isMonth 0 = .ok (.iload_n 0, 1) := by decide +kernel
theorem dX11_isMonth_1 : decode cX11_isMonth 1 = .ok (.i2l, 1) := by decide +kernel
theorem dX11_isMonth_2 : decode cX11_isMonth 2 = .ok (.lconst 0, 1) := by decide +kernel
theorem dX11_isMonth_3 : decode cX11_isMonth 3 = .ok (.ldc2_w 97, 3) := by decide +kernel
theorem dX11_isMonth_6 : decode cX11_isMonth 6 = .ok (.invokestatic 93, 3) := by decide +kernel
theorem dX11_isMonth_9 : decode cX11_isMonth 9 = .ok (.ireturn, 1) := by decide +kernel
theorem dX11_all_0 : decode cX11_all 0 = .ok (.iconst 1, 1) := by decide +kernel
theorem dX11_all_1 : decode cX11_all 1 = .ok (.aload_n 0, 1) := by decide +kernel
theorem dX11_all_2 : decode cX11_all 2 = .ok (.getfield 90, 3) := by decide +kernel
theorem dX11_all_5 : decode cX11_all 5 = .ok (.ishl, 1) := by decide +kernel
theorem dX11_all_6 : decode cX11_all 6 = .ok (.iconst 1, 1) := by decide +kernel
theorem dX11_all_7 : decode cX11_all 7 = .ok (.isub, 1) := by decide +kernel
theorem dX11_all_8 : decode cX11_all 8 = .ok (.ireturn, 1) := by decide +kernel
theorem dX11_codeAt_0 : decode cX11_codeAt 0 = .ok (.aload_n 0, 1) := by decide +kernel
theorem dX11_codeAt_1 : decode cX11_codeAt 1 = .ok (.getfield 99, 3) := by decide +kernel
theorem dX11_codeAt_4 : decode cX11_codeAt 4 = .ok (.iload_n 2, 1) := by decide +kernel
theorem dX11_codeAt_5 : decode cX11_codeAt 5 = .ok (.if_icmp .ge 17, 3) := by decide +kernel
theorem dX11_codeAt_8 : decode cX11_codeAt 8 = .ok (.aload_n 0, 1) := by decide +kernel
theorem dX11_codeAt_9 : decode cX11_codeAt 9 = .ok (.getfield 74, 3) := by decide +kernel
theorem dX11_codeAt_12 : decode cX11_codeAt 12 = .ok (.iload_n 1, 1) := by decide +kernel
theorem dX11_codeAt_13 : decode cX11_codeAt 13 = .ok (.aload_n 0, 1) := by decide +kernel
theorem dX11_codeAt_14 : decode cX11_codeAt 14 = .ok (.getfield 99, 3) := by decide +kernel
theorem dX11_codeAt_17 : decode cX11_codeAt 17 = .ok (.iadd, 1) := by decide +kernel
theorem dX11_codeAt_18 : decode cX11_codeAt 18 = .ok (.iaload, 1) := by decide +kernel
theorem dX11_codeAt_19 : decode cX11_codeAt 19 = .ok (.goto 5, 3) := by decide +kernel
theorem dX11_codeAt_22 : decode cX11_codeAt 22 = .ok (.bipush (-9), 2) := by decide +kernel
theorem dX11_codeAt_24 : decode cX11_codeAt 24 = .ok (.ireturn, 1) := by decide +kernel
set_option maxRecDepth 20000 in
theorem ggX11_figure_X11_codeAt : GoodIn wsX11_figure wsX11_codeAt := goodIn_r _ [6, 1, 7, 11, 12, 13, 14, 15, 16, 17, 18, 19, 20, 21, 22, 23, 24, 25, 26, 27, 28, 29, 30, 31, 32, 33, 34, 35, 36, 37, 38, 39, 40, 41] (by decide +kernel) (by decide +kernel)
set_option maxRecDepth 20000 in
theorem gX11_figure_X11_codeAt : GoodIn wsX11_figure (wsV RX11 102 RX11 yX11_codeAt wsX11_codeAt) := goodIn_app (goodIn_of _ (by decide +kernel)) ggX11_figure_X11_codeAt
set_option maxRecDepth 20000 in
theorem ggX11_figure_X11_in : GoodIn wsX11_figure wsX11_in := goodIn_r _ [10] (by decide +kernel) (by decide +kernel)
set_option maxRecDepth 20000 in
theorem gX11_figure_X11_in : GoodIn wsX11_figure (va_wsS RX11 93 yX11_in wsX11_in) := goodIn_app (goodIn_of _ (by decide +kernel)) ggX11_figure_X11_in
theorem dX11_figure_0 : decode cX11_figure 0 = .ok (.aload_n 0, 1) := by decide +kernel
theorem dX11_figure_1 : decode cX11_figure 1 = .ok (.iload_n 1, 1) := by decide +kernel
theorem dX11_figure_2 : decode cX11_figure 2 = .ok (.iload_n 2, 1) := by decide +kernel
theorem dX11_figure_3 : decode cX11_figure 3 = .ok (.invokevirtual 102, 3) := by decide +kernel
theorem dX11_figure_6 : decode cX11_figure 6 = .ok (.bipush 48, 2) := by decide +kernel
theorem dX11_figure_8 : decode cX11_figure 8 = .ok (.isub, 1) := by decide +kernel
theorem dX11_figure_9 : decode cX11_figure 9 = .ok (.istore 5, 2) := by decide +kernel
theorem dX11_figure_11 : decode cX11_figure 11 = .ok (.iload 5, 2) := by decide +kernel
theorem dX11_figure_13 : decode cX11_figure 13 = .ok (.i2l, 1) := by decide +kernel
theorem dX11_figure_14 : decode cX11_figure 14 = .ok (.iload_n 3, 1) := by decide +kernel
theorem dX11_figure_15 : decode cX11_figure 15 = .ok (.i2l, 1) := by decide +kernel
theorem dX11_figure_16 : decode cX11_figure 16 = .ok (.iload 4, 2) := by decide +kernel
theorem dX11_figure_18 : decode cX11_figure 18 = .ok (.i2l, 1) := by decide +kernel
theorem dX11_figure_19 : decode cX11_figure 19 = .ok (.invokestatic 93, 3) := by decide +kernel
theorem dX11_figure_22 : decode cX11_figure 22 = .ok (.istore 6, 2) := by decide +kernel
theorem dX11_figure_24 : decode cX11_figure 24 = .ok (.aload_n 0, 1) := by decide +kernel
theorem dX11_figure_25 : decode cX11_figure 25 = .ok (.dup, 1) := by decide +kernel
theorem dX11_figure_26 : decode cX11_figure 26 = .ok (.getfield 99, 3) := by decide +kernel
theorem dX11_figure_29 : decode cX11_figure 29 = .ok (.iload 6, 2) := by decide +kernel
theorem dX11_figure_31 : decode cX11_figure 31 = .ok (.ifCond .eq 7, 3) := by decide +kernel
theorem dX11_figure_34 : decode cX11_figure 34 = .ok (.iconst 1, 1) := by decide +kernel
theorem dX11_figure_35 : decode cX11_figure 35 = .ok (.goto 4, 3) := by decide +kernel
theorem dX11_figure_38 : decode cX11_figure 38 = .ok (.iconst 0, 1) := by decide +kernel
theorem dX11_figure_39 : decode cX11_figure 39 = .ok (.iadd, 1) := by decide +kernel
theorem dX11_figure_40 : decode cX11_figure 40 = .ok (.putfield 99, 3) := by decide +kernel
theorem dX11_figure_43 : decode cX11_figure 43 = .ok (.iload 6, 2) := by decide +kernel
theorem dX11_figure_45 : decode cX11_figure 45 = .ok (.ifCond .eq 8, 3) := by decide +kernel
theorem dX11_figure_48 : decode cX11_figure 48 = .ok (.iload 5, 2) := by decide +kernel
theorem dX11_figure_50 : decode cX11_figure 50 = .ok (.goto 5, 3) := by decide +kernel
theorem dX11_figure_53 : decode cX11_figure 53 = .ok (.bipush (-9), 2) := by decide +kernel
theorem dX11_figure_55 : decode cX11_figure 55 = .ok (.ireturn, 1) := by decide +kernel
set_option maxRecDepth 20000 in
theorem ggX11_readsSleeper_X11_codeAt : GoodIn wsX11_readsSleeper wsX11_codeAt := goodIn_r _ [10, 2, 11, 19, 20, 21, 22, 23, 24, 25, 26, 27, 28, 29, 30, 31, 32, 33, 34, 35, 36, 37, 38, 39, 40, 41, 42, 43, 44, 45, 46, 47, 48, 49] (by decide +kernel) (by decide +kernel)
set_option maxRecDepth 20000 in
theorem gX11_readsSleeper_X11_codeAt : GoodIn wsX11_readsSleeper (wsV RX11 102 RX11 yX11_codeAt wsX11_codeAt) := goodIn_app (goodIn_of _ (by decide +kernel)) ggX11_readsSleeper_X11_codeAt
set_option maxRecDepth 20000 in
theorem ggX11_readsSleeper_X11_figure : GoodIn wsX11_readsSleeper wsX11_figure := goodIn_r _ [15, 2, 6, 7, 8, 9, 10, 11, 16, 17, 18, 19, 20, 21, 22, 23, 24, 25, 26, 27, 28, 29, 30, 31, 32, 33, 34, 35, 36, 37, 38, 39, 40, 41, 42, 43, 44, 45, 46, 47, 48, 49] (by decide +kernel) (by decide +kernel)
set_option maxRecDepth 20000 in
theorem gX11_readsSleeper_X11_figure : GoodIn wsX11_readsSleeper (wsV RX11 109 RX11 yX11_figure wsX11_figure) := goodIn_app (goodIn_of _ (by decide +kernel)) ggX11_readsSleeper_X11_figure
theorem dX11_readsSleeper_0 : decode cX11_readsSleeper 0 = .ok (.aload_n 0, 1) := by decide +kernel
theorem dX11_readsSleeper_1 : decode cX11_readsSleeper 1 = .ok (.getfield 106, 3) := by decide +kernel
theorem dX11_readsSleeper_4 : decode cX11_readsSleeper 4 = .ok (.bipush 6, 2) := by decide +kernel
theorem dX11_readsSleeper_6 : decode cX11_readsSleeper 6 = .ok (.if_icmp .eq 14, 3) := by decide +kernel
theorem dX11_readsSleeper_9 : decode cX11_readsSleeper 9 = .ok (.aload_n 0, 1) := by decide +kernel
theorem dX11_readsSleeper_10 : decode cX11_readsSleeper 10 = .ok (.iload_n 1, 1) := by decide +kernel
theorem dX11_readsSleeper_11 : decode cX11_readsSleeper 11 = .ok (.iload_n 2, 1) := by decide +kernel
theorem dX11_readsSleeper_12 : decode cX11_readsSleeper 12 = .ok (.invokevirtual 102, 3) := by decide +kernel
theorem dX11_readsSleeper_15 : decode cX11_readsSleeper 15 = .ok (.bipush 59, 2) := by decide +kernel
theorem dX11_readsSleeper_17 : decode cX11_readsSleeper 17 = .ok (.if_icmp .eq 5, 3) := by decide +kernel
theorem dX11_readsSleeper_20 : decode cX11_readsSleeper 20 = .ok (.iconst 0, 1) := by decide +kernel
theorem dX11_readsSleeper_21 : decode cX11_readsSleeper 21 = .ok (.ireturn, 1) := by decide +kernel
theorem dX11_readsSleeper_22 : decode cX11_readsSleeper 22 = .ok (.aload_n 0, 1) := by decide +kernel
theorem dX11_readsSleeper_23 : decode cX11_readsSleeper 23 = .ok (.dup, 1) := by decide +kernel
theorem dX11_readsSleeper_24 : decode cX11_readsSleeper 24 = .ok (.getfield 99, 3) := by decide +kernel
theorem dX11_readsSleeper_27 : decode cX11_readsSleeper 27 = .ok (.iconst 1, 1) := by decide +kernel
theorem dX11_readsSleeper_28 : decode cX11_readsSleeper 28 = .ok (.iadd, 1) := by decide +kernel
theorem dX11_readsSleeper_29 : decode cX11_readsSleeper 29 = .ok (.putfield 99, 3) := by decide +kernel
theorem dX11_readsSleeper_32 : decode cX11_readsSleeper 32 = .ok (.aload_n 0, 1) := by decide +kernel
theorem dX11_readsSleeper_33 : decode cX11_readsSleeper 33 = .ok (.iload_n 1, 1) := by decide +kernel
theorem dX11_readsSleeper_34 : decode cX11_readsSleeper 34 = .ok (.iload_n 2, 1) := by decide +kernel
theorem dX11_readsSleeper_35 : decode cX11_readsSleeper 35 = .ok (.invokevirtual 102, 3) := by decide +kernel
theorem dX11_readsSleeper_38 : decode cX11_readsSleeper 38 = .ok (.istore_n 3, 1) := by decide +kernel
theorem dX11_readsSleeper_39 : decode cX11_readsSleeper 39 = .ok (.iload_n 3, 1) := by decide +kernel
theorem dX11_readsSleeper_40 : decode cX11_readsSleeper 40 = .ok (.bipush 115, 2) := by decide +kernel
theorem dX11_readsSleeper_42 : decode cX11_readsSleeper 42 = .ok (.if_icmp .eq 17, 3) := by decide +kernel
theorem dX11_readsSleeper_45 : decode cX11_readsSleeper 45 = .ok (.iload_n 3, 1) := by decide +kernel
theorem dX11_readsSleeper_46 : decode cX11_readsSleeper 46 = .ok (.bipush 102, 2) := by decide +kernel
theorem dX11_readsSleeper_48 : decode cX11_readsSleeper 48 = .ok (.if_icmp .eq 11, 3) := by decide +kernel
theorem dX11_readsSleeper_51 : decode cX11_readsSleeper 51 = .ok (.iload_n 3, 1) := by decide +kernel
theorem dX11_readsSleeper_52 : decode cX11_readsSleeper 52 = .ok (.bipush 111, 2) := by decide +kernel
theorem dX11_readsSleeper_54 : decode cX11_readsSleeper 54 = .ok (.if_icmp .eq 5, 3) := by decide +kernel
theorem dX11_readsSleeper_57 : decode cX11_readsSleeper 57 = .ok (.iconst 0, 1) := by decide +kernel
theorem dX11_readsSleeper_58 : decode cX11_readsSleeper 58 = .ok (.ireturn, 1) := by decide +kernel
theorem dX11_readsSleeper_59 : decode cX11_readsSleeper 59 = .ok (.aload_n 0, 1) := by decide +kernel
theorem dX11_readsSleeper_60 : decode cX11_readsSleeper 60 = .ok (.dup, 1) := by decide +kernel
theorem dX11_readsSleeper_61 : decode cX11_readsSleeper 61 = .ok (.getfield 99, 3) := by decide +kernel
theorem dX11_readsSleeper_64 : decode cX11_readsSleeper 64 = .ok (.iconst 1, 1) := by decide +kernel
theorem dX11_readsSleeper_65 : decode cX11_readsSleeper 65 = .ok (.iadd, 1) := by decide +kernel
theorem dX11_readsSleeper_66 : decode cX11_readsSleeper 66 = .ok (.putfield 99, 3) := by decide +kernel
theorem dX11_readsSleeper_69 : decode cX11_readsSleeper 69 = .ok (.aload_n 0, 1) := by decide +kernel
theorem dX11_readsSleeper_70 : decode cX11_readsSleeper 70 = .ok (.iload_n 1, 1) := by decide +kernel
theorem dX11_readsSleeper_71 : decode cX11_readsSleeper 71 = .ok (.iload_n 2, 1) := by decide +kernel
theorem dX11_readsSleeper_72 : decode cX11_readsSleeper 72 = .ok (.iconst 0, 1) := by decide +kernel
theorem dX11_readsSleeper_73 : decode cX11_readsSleeper 73 = .ok (.bipush 7, 2) := by decide +kernel
theorem dX11_readsSleeper_75 : decode cX11_readsSleeper 75 = .ok (.invokevirtual 109, 3) := by decide +kernel
theorem dX11_readsSleeper_78 : decode cX11_readsSleeper 78 = .ok (.istore 4, 2) := by decide +kernel
theorem dX11_readsSleeper_80 : decode cX11_readsSleeper 80 = .ok (.iload 4, 2) := by decide +kernel
theorem dX11_readsSleeper_82 : decode cX11_readsSleeper 82 = .ok (.ifCond .ge 8, 3) := by decide +kernel
theorem dX11_readsSleeper_85 : decode cX11_readsSleeper 85 = .ok (.bipush (-9), 2) := by decide +kernel
theorem dX11_readsSleeper_87 : decode cX11_readsSleeper 87 = .ok (.goto 12, 3) := by decide +kernel
theorem dX11_readsSleeper_90 : decode cX11_readsSleeper 90 = .ok (.aload_n 0, 1) := by decide +kernel
theorem dX11_readsSleeper_91 : decode cX11_readsSleeper 91 = .ok (.iload_n 1, 1) := by decide +kernel
theorem dX11_readsSleeper_92 : decode cX11_readsSleeper 92 = .ok (.iload_n 2, 1) := by decide +kernel
theorem dX11_readsSleeper_93 : decode cX11_readsSleeper 93 = .ok (.iconst 1, 1) := by decide +kernel
theorem dX11_readsSleeper_94 : decode cX11_readsSleeper 94 = .ok (.bipush 9, 2) := by decide +kernel
theorem dX11_readsSleeper_96 : decode cX11_readsSleeper 96 = .ok (.invokevirtual 109, 3) := by decide +kernel
theorem dX11_readsSleeper_99 : decode cX11_readsSleeper 99 = .ok (.istore 5, 2) := by decide +kernel
theorem dX11_readsSleeper_101 : decode cX11_readsSleeper 101 = .ok (.iload 5, 2) := by decide +kernel
theorem dX11_readsSleeper_103 : decode cX11_readsSleeper 103 = .ok (.ifCond .ge 5, 3) := by decide +kernel
theorem dX11_readsSleeper_106 : decode cX11_readsSleeper 106 = .ok (.iconst 0, 1) := by decide +kernel
theorem dX11_readsSleeper_107 : decode cX11_readsSleeper 107 = .ok (.ireturn, 1) := by decide +kernel
theorem dX11_readsSleeper_108 : decode cX11_readsSleeper 108 = .ok (.aload_n 0, 1) := by decide +kernel
theorem dX11_readsSleeper_109 : decode cX11_readsSleeper 109 = .ok (.getfield 31, 3) := by decide +kernel
theorem dX11_readsSleeper_112 : decode cX11_readsSleeper 112 = .ok (.aload_n 0, 1) := by decide +kernel
theorem dX11_readsSleeper_113 : decode cX11_readsSleeper 113 = .ok (.getfield 106, 3) := by decide +kernel
theorem dX11_readsSleeper_116 : decode cX11_readsSleeper 116 = .ok (.iload_n 3, 1) := by decide +kernel
theorem dX11_readsSleeper_117 : decode cX11_readsSleeper 117 = .ok (.bipush 115, 2) := by decide +kernel
theorem dX11_readsSleeper_119 : decode cX11_readsSleeper 119 = .ok (.if_icmp .ne 7, 3) := by decide +kernel
theorem dX11_readsSleeper_122 : decode cX11_readsSleeper 122 = .ok (.iconst 0, 1) := by decide +kernel
theorem dX11_readsSleeper_123 : decode cX11_readsSleeper 123 = .ok (.goto 14, 3) := by decide +kernel
theorem dX11_readsSleeper_126 : decode cX11_readsSleeper 126 = .ok (.iload_n 3, 1) := by decide +kernel
theorem dX11_readsSleeper_127 : decode cX11_readsSleeper 127 = .ok (.bipush 102, 2) := by decide +kernel
theorem dX11_readsSleeper_129 : decode cX11_readsSleeper 129 = .ok (.if_icmp .ne 7, 3) := by decide +kernel
theorem dX11_readsSleeper_132 : decode cX11_readsSleeper 132 = .ok (.iconst 1, 1) := by decide +kernel
theorem dX11_readsSleeper_133 : decode cX11_readsSleeper 133 = .ok (.goto 4, 3) := by decide +kernel
theorem dX11_readsSleeper_136 : decode cX11_readsSleeper 136 = .ok (.iconst 2, 1) := by decide +kernel
theorem dX11_readsSleeper_137 : decode cX11_readsSleeper 137 = .ok (.iastore, 1) := by decide +kernel
theorem dX11_readsSleeper_138 : decode cX11_readsSleeper 138 = .ok (.aload_n 0, 1) := by decide +kernel
theorem dX11_readsSleeper_139 : decode cX11_readsSleeper 139 = .ok (.getfield 34, 3) := by decide +kernel
theorem dX11_readsSleeper_142 : decode cX11_readsSleeper 142 = .ok (.aload_n 0, 1) := by decide +kernel
theorem dX11_readsSleeper_143 : decode cX11_readsSleeper 143 = .ok (.getfield 106, 3) := by decide +kernel
theorem dX11_readsSleeper_146 : decode cX11_readsSleeper 146 = .ok (.iload 4, 2) := by decide +kernel
theorem dX11_readsSleeper_148 : decode cX11_readsSleeper 148 = .ok (.iastore, 1) := by decide +kernel
theorem dX11_readsSleeper_149 : decode cX11_readsSleeper 149 = .ok (.aload_n 0, 1) := by decide +kernel
theorem dX11_readsSleeper_150 : decode cX11_readsSleeper 150 = .ok (.getfield 37, 3) := by decide +kernel
theorem dX11_readsSleeper_153 : decode cX11_readsSleeper 153 = .ok (.aload_n 0, 1) := by decide +kernel
theorem dX11_readsSleeper_154 : decode cX11_readsSleeper 154 = .ok (.getfield 106, 3) := by decide +kernel
theorem dX11_readsSleeper_157 : decode cX11_readsSleeper 157 = .ok (.iload 5, 2) := by decide +kernel
theorem dX11_readsSleeper_159 : decode cX11_readsSleeper 159 = .ok (.iastore, 1) := by decide +kernel
theorem dX11_readsSleeper_160 : decode cX11_readsSleeper 160 = .ok (.aload_n 0, 1) := by decide +kernel
theorem dX11_readsSleeper_161 : decode cX11_readsSleeper 161 = .ok (.dup, 1) := by decide +kernel
theorem dX11_readsSleeper_162 : decode cX11_readsSleeper 162 = .ok (.getfield 106, 3) := by decide +kernel
theorem dX11_readsSleeper_165 : decode cX11_readsSleeper 165 = .ok (.iconst 1, 1) := by decide +kernel
theorem dX11_readsSleeper_166 : decode cX11_readsSleeper 166 = .ok (.iadd, 1) := by decide +kernel
theorem dX11_readsSleeper_167 : decode cX11_readsSleeper 167 = .ok (.putfield 106, 3) := by decide +kernel
theorem dX11_readsSleeper_170 : decode cX11_readsSleeper 170 = .ok (.iconst 1, 1) := by decide +kernel
theorem dX11_readsSleeper_171 : decode cX11_readsSleeper 171 = .ok (.ireturn, 1) := by decide +kernel
set_option maxRecDepth 20000 in
theorem ggX11_readsShip_X11_codeAt : GoodIn wsX11_readsShip wsX11_codeAt := goodIn_r _ [7, 1, 8, 23, 24, 25, 26, 27, 28, 29, 30, 31, 32, 33, 34, 35, 36, 37, 38, 39, 40, 41, 42, 43, 44, 45, 46, 47, 48, 49, 50, 51, 52, 53] (by decide +kernel) (by decide +kernel)
set_option maxRecDepth 20000 in
theorem gX11_readsShip_X11_codeAt : GoodIn wsX11_readsShip (wsV RX11 102 RX11 yX11_codeAt wsX11_codeAt) := goodIn_app (goodIn_of _ (by decide +kernel)) ggX11_readsShip_X11_codeAt
set_option maxRecDepth 20000 in
theorem ggX11_readsShip_X11_readsSleeper : GoodIn wsX11_readsShip wsX11_readsSleeper := goodIn_r _ [12, 2, 1, 13, 14, 15, 3, 4, 5, 6, 7, 8, 16, 17, 18, 19, 20, 21, 22, 23, 24, 25, 26, 27, 28, 29, 30, 31, 32, 33, 34, 35, 36, 37, 38, 39, 40, 41, 42, 43, 44, 45, 46, 47, 48, 49, 50, 51, 52, 53] (by decide +kernel) (by decide +kernel)
set_option maxRecDepth 20000 in
theorem gX11_readsShip_X11_readsSleeper : GoodIn wsX11_readsShip (wsV RX11 113 RX11 yX11_readsSleeper wsX11_readsSleeper) := goodIn_app (goodIn_of _ (by decide +kernel)) ggX11_readsShip_X11_readsSleeper
theorem dX11_readsShip_0 : decode cX11_readsShip 0 = .ok (.aload_n 0, 1) := by decide +kernel
theorem dX11_readsShip_1 : decode cX11_readsShip 1 = .ok (.iconst 0, 1) := by decide +kernel
theorem dX11_readsShip_2 : decode cX11_readsShip 2 = .ok (.putfield 99, 3) := by decide +kernel
theorem dX11_readsShip_5 : decode cX11_readsShip 5 = .ok (.aload_n 0, 1) := by decide +kernel
theorem dX11_readsShip_6 : decode cX11_readsShip 6 = .ok (.iconst 0, 1) := by decide +kernel
theorem dX11_readsShip_7 : decode cX11_readsShip 7 = .ok (.putfield 106, 3) := by decide +kernel
theorem dX11_readsShip_10 : decode cX11_readsShip 10 = .ok (.aload_n 0, 1) := by decide +kernel
theorem dX11_readsShip_11 : decode cX11_readsShip 11 = .ok (.iload_n 1, 1) := by decide +kernel
theorem dX11_readsShip_12 : decode cX11_readsShip 12 = .ok (.iload_n 2, 1) := by decide +kernel
theorem dX11_readsShip_13 : decode cX11_readsShip 13 = .ok (.invokevirtual 102, 3) := by decide +kernel
theorem dX11_readsShip_16 : decode cX11_readsShip 16 = .ok (.bipush 97, 2) := by decide +kernel
theorem dX11_readsShip_18 : decode cX11_readsShip 18 = .ok (.if_icmp .ne 7, 3) := by decide +kernel
theorem dX11_readsShip_21 : decode cX11_readsShip 21 = .ok (.iconst 1, 1) := by decide +kernel
theorem dX11_readsShip_22 : decode cX11_readsShip 22 = .ok (.goto 4, 3) := by decide +kernel
theorem dX11_readsShip_25 : decode cX11_readsShip 25 = .ok (.iconst 0, 1) := by decide +kernel
theorem dX11_readsShip_26 : decode cX11_readsShip 26 = .ok (.istore_n 3, 1) := by decide +kernel
theorem dX11_readsShip_27 : decode cX11_readsShip 27 = .ok (.aload_n 0, 1) := by decide +kernel
theorem dX11_readsShip_28 : decode cX11_readsShip 28 = .ok (.dup, 1) := by decide +kernel
theorem dX11_readsShip_29 : decode cX11_readsShip 29 = .ok (.getfield 99, 3) := by decide +kernel
theorem dX11_readsShip_32 : decode cX11_readsShip 32 = .ok (.iload_n 3, 1) := by decide +kernel
theorem dX11_readsShip_33 : decode cX11_readsShip 33 = .ok (.ifCond .eq 7, 3) := by decide +kernel
theorem dX11_readsShip_36 : decode cX11_readsShip 36 = .ok (.iconst 1, 1) := by decide +kernel
theorem dX11_readsShip_37 : decode cX11_readsShip 37 = .ok (.goto 4, 3) := by decide +kernel
theorem dX11_readsShip_40 : decode cX11_readsShip 40 = .ok (.iconst 0, 1) := by decide +kernel
theorem dX11_readsShip_41 : decode cX11_readsShip 41 = .ok (.iadd, 1) := by decide +kernel
theorem dX11_readsShip_42 : decode cX11_readsShip 42 = .ok (.putfield 99, 3) := by decide +kernel
theorem dX11_readsShip_45 : decode cX11_readsShip 45 = .ok (.iload_n 3, 1) := by decide +kernel
theorem dX11_readsShip_46 : decode cX11_readsShip 46 = .ok (.ifCond .eq 29, 3) := by decide +kernel
theorem dX11_readsShip_49 : decode cX11_readsShip 49 = .ok (.aload_n 0, 1) := by decide +kernel
theorem dX11_readsShip_50 : decode cX11_readsShip 50 = .ok (.getfield 106, 3) := by decide +kernel
theorem dX11_readsShip_53 : decode cX11_readsShip 53 = .ok (.iconst 2, 1) := by decide +kernel
theorem dX11_readsShip_54 : decode cX11_readsShip 54 = .ok (.if_icmp .lt 11, 3) := by decide +kernel
theorem dX11_readsShip_57 : decode cX11_readsShip 57 = .ok (.aload_n 0, 1) := by decide +kernel
theorem dX11_readsShip_58 : decode cX11_readsShip 58 = .ok (.getfield 99, 3) := by decide +kernel
theorem dX11_readsShip_61 : decode cX11_readsShip 61 = .ok (.iload_n 2, 1) := by decide +kernel
theorem dX11_readsShip_62 : decode cX11_readsShip 62 = .ok (.if_icmp .ge 13, 3) := by decide +kernel
theorem dX11_readsShip_65 : decode cX11_readsShip 65 = .ok (.aload_n 0, 1) := by decide +kernel
theorem dX11_readsShip_66 : decode cX11_readsShip 66 = .ok (.iload_n 1, 1) := by decide +kernel
theorem dX11_readsShip_67 : decode cX11_readsShip 67 = .ok (.iload_n 2, 1) := by decide +kernel
theorem dX11_readsShip_68 : decode cX11_readsShip 68 = .ok (.invokevirtual 113, 3) := by decide +kernel
theorem dX11_readsShip_71 : decode cX11_readsShip 71 = .ok (.istore_n 3, 1) := by decide +kernel
theorem dX11_readsShip_72 : decode cX11_readsShip 72 = .ok (.goto (-27), 3) := by decide +kernel
theorem dX11_readsShip_75 : decode cX11_readsShip 75 = .ok (.iload_n 3, 1) := by decide +kernel
theorem dX11_readsShip_76 : decode cX11_readsShip 76 = .ok (.ireturn, 1) := by decide +kernel
set_option maxRecDepth 20000 in
theorem ggX11_cellsBarred_X11_failed : GoodIn wsX11_cellsBarred wsX11_failed := goodIn_r _ [7, 8, 12, 13, 14, 15, 16, 17, 18, 19, 20, 21, 22, 23, 24, 25, 26, 27, 28, 29, 30, 31, 32, 33, 34, 35, 36, 37, 38, 39, 40, 41, 42] (by decide +kernel) (by decide +kernel)
set_option maxRecDepth 20000 in
theorem gX11_cellsBarred_X11_failed : GoodIn wsX11_cellsBarred (wsV RX11 117 RX11 yX11_failed wsX11_failed) := goodIn_app (goodIn_of _ (by decide +kernel)) ggX11_cellsBarred_X11_failed
set_option maxRecDepth 20000 in
theorem ggX11_cellsBarred_X11_isBeyond : GoodIn wsX11_cellsBarred wsX11_isBeyond := goodIn_r _ [11] (by decide +kernel) (by decide +kernel)
set_option maxRecDepth 20000 in
theorem gX11_cellsBarred_X11_isBeyond : GoodIn wsX11_cellsBarred (va_wsS RX11 121 yX11_isBeyond wsX11_isBeyond) := goodIn_app (goodIn_of _ (by decide +kernel)) ggX11_cellsBarred_X11_isBeyond
theorem dX11_cellsBarred_0 : decode cX11_cellsBarred 0 = .ok (.aload_n 0, 1) := by decide +kernel
theorem dX11_cellsBarred_1 : decode cX11_cellsBarred 1 = .ok (.getfield 68, 3) := by decide +kernel
theorem dX11_cellsBarred_4 : decode cX11_cellsBarred 4 = .ok (.iload_n 1, 1) := by decide +kernel
theorem dX11_cellsBarred_5 : decode cX11_cellsBarred 5 = .ok (.iaload, 1) := by decide +kernel
theorem dX11_cellsBarred_6 : decode cX11_cellsBarred 6 = .ok (.ifCond .lt 19, 3) := by decide +kernel
theorem dX11_cellsBarred_9 : decode cX11_cellsBarred 9 = .ok (.aload_n 0, 1) := by decide +kernel
theorem dX11_cellsBarred_10 : decode cX11_cellsBarred 10 = .ok (.getfield 71, 3) := by decide +kernel
theorem dX11_cellsBarred_13 : decode cX11_cellsBarred 13 = .ok (.iload_n 1, 1) := by decide +kernel
theorem dX11_cellsBarred_14 : decode cX11_cellsBarred 14 = .ok (.iaload, 1) := by decide +kernel
theorem dX11_cellsBarred_15 : decode cX11_cellsBarred 15 = .ok (.iload_n 2, 1) := by decide +kernel
theorem dX11_cellsBarred_16 : decode cX11_cellsBarred 16 = .ok (.if_icmp .eq 9, 3) := by decide +kernel
theorem dX11_cellsBarred_19 : decode cX11_cellsBarred 19 = .ok (.aload_n 0, 1) := by decide +kernel
theorem dX11_cellsBarred_20 : decode cX11_cellsBarred 20 = .ok (.iconst 2, 1) := by decide +kernel
theorem dX11_cellsBarred_21 : decode cX11_cellsBarred 21 = .ok (.invokevirtual 117, 3) := by decide +kernel
theorem dX11_cellsBarred_24 : decode cX11_cellsBarred 24 = .ok (.ireturn, 1) := by decide +kernel
theorem dX11_cellsBarred_25 : decode cX11_cellsBarred 25 = .ok (.aload_n 0, 1) := by decide +kernel
theorem dX11_cellsBarred_26 : decode cX11_cellsBarred 26 = .ok (.getfield 68, 3) := by decide +kernel
theorem dX11_cellsBarred_29 : decode cX11_cellsBarred 29 = .ok (.iload_n 1, 1) := by decide +kernel
theorem dX11_cellsBarred_30 : decode cX11_cellsBarred 30 = .ok (.iaload, 1) := by decide +kernel
theorem dX11_cellsBarred_31 : decode cX11_cellsBarred 31 = .ok (.ifCond .ge 9, 3) := by decide +kernel
theorem dX11_cellsBarred_34 : decode cX11_cellsBarred 34 = .ok (.aload_n 0, 1) := by decide +kernel
theorem dX11_cellsBarred_35 : decode cX11_cellsBarred 35 = .ok (.iconst 1, 1) := by decide +kernel
theorem dX11_cellsBarred_36 : decode cX11_cellsBarred 36 = .ok (.invokevirtual 117, 3) := by decide +kernel
theorem dX11_cellsBarred_39 : decode cX11_cellsBarred 39 = .ok (.ireturn, 1) := by decide +kernel
theorem dX11_cellsBarred_40 : decode cX11_cellsBarred 40 = .ok (.lload 4, 2) := by decide +kernel
theorem dX11_cellsBarred_42 : decode cX11_cellsBarred 42 = .ok (.lconst 0, 1) := by decide +kernel
theorem dX11_cellsBarred_43 : decode cX11_cellsBarred 43 = .ok (.lcmp, 1) := by decide +kernel
theorem dX11_cellsBarred_44 : decode cX11_cellsBarred 44 = .ok (.ifCond .ge 9, 3) := by decide +kernel
theorem dX11_cellsBarred_47 : decode cX11_cellsBarred 47 = .ok (.aload_n 0, 1) := by decide +kernel
theorem dX11_cellsBarred_48 : decode cX11_cellsBarred 48 = .ok (.iconst 4, 1) := by decide +kernel
theorem dX11_cellsBarred_49 : decode cX11_cellsBarred 49 = .ok (.invokevirtual 117, 3) := by decide +kernel
theorem dX11_cellsBarred_52 : decode cX11_cellsBarred 52 = .ok (.ireturn, 1) := by decide +kernel
theorem dX11_cellsBarred_53 : decode cX11_cellsBarred 53 = .ok (.iload_n 3, 1) := by decide +kernel
theorem dX11_cellsBarred_54 : decode cX11_cellsBarred 54 = .ok (.lload 4, 2) := by decide +kernel
theorem dX11_cellsBarred_56 : decode cX11_cellsBarred 56 = .ok (.aload_n 0, 1) := by decide +kernel
theorem dX11_cellsBarred_57 : decode cX11_cellsBarred 57 = .ok (.getfield 68, 3) := by decide +kernel
theorem dX11_cellsBarred_60 : decode cX11_cellsBarred 60 = .ok (.iload_n 1, 1) := by decide +kernel
theorem dX11_cellsBarred_61 : decode cX11_cellsBarred 61 = .ok (.iaload, 1) := by decide +kernel
theorem dX11_cellsBarred_62 : decode cX11_cellsBarred 62 = .ok (.invokestatic 121, 3) := by decide +kernel
theorem dX11_cellsBarred_65 : decode cX11_cellsBarred 65 = .ok (.ifCond .eq 11, 3) := by decide +kernel
theorem dX11_cellsBarred_68 : decode cX11_cellsBarred 68 = .ok (.aload_n 0, 1) := by decide +kernel
theorem dX11_cellsBarred_69 : decode cX11_cellsBarred 69 = .ok (.iconst 3, 1) := by decide +kernel
theorem dX11_cellsBarred_70 : decode cX11_cellsBarred 70 = .ok (.invokevirtual 117, 3) := by decide +kernel
theorem dX11_cellsBarred_73 : decode cX11_cellsBarred 73 = .ok (.goto 4, 3) := by decide +kernel
theorem dX11_cellsBarred_76 : decode cX11_cellsBarred 76 = .ok (.iconst 0, 1) := by decide +kernel
theorem dX11_cellsBarred_77 : decode cX11_cellsBarred 77 = .ok (.ireturn, 1) := by decide +kernel
set_option maxRecDepth 20000 in
theorem ggX11_ship_X11_noSheet : GoodIn wsX11_ship wsX11_noSheet := goodIn_r _ [19, 20, 21, 22, 18, 23] (by decide +kernel) (by decide +kernel)
set_option maxRecDepth 20000 in
theorem gX11_ship_X11_noSheet : GoodIn wsX11_ship (va_wsS RX11 125 yX11_noSheet wsX11_noSheet) := goodIn_app (goodIn_of _ (by decide +kernel)) ggX11_ship_X11_noSheet
set_option maxRecDepth 20000 in
theorem ggX11_ship_X11_refused : GoodIn wsX11_ship wsX11_refused := goodIn_r _ [27, 28, 59, 60, 61, 62, 63, 64, 65, 66, 67, 68, 69, 70, 71, 72, 73, 74, 75, 76, 77, 78, 79, 80, 81, 82, 83, 84, 85, 86, 87, 88, 89] (by decide +kernel) (by decide +kernel)
set_option maxRecDepth 20000 in
theorem gX11_ship_X11_refused : GoodIn wsX11_ship (wsV RX11 129 RX11 yX11_refused wsX11_refused) := goodIn_app (goodIn_of _ (by decide +kernel)) ggX11_ship_X11_refused
set_option maxRecDepth 20000 in
theorem ggX11_ship_X11_in : GoodIn wsX11_ship wsX11_in := goodIn_r _ [23] (by decide +kernel) (by decide +kernel)
set_option maxRecDepth 20000 in
theorem gX11_ship_X11_in : GoodIn wsX11_ship (va_wsS RX11 93 yX11_in wsX11_in) := goodIn_app (goodIn_of _ (by decide +kernel)) ggX11_ship_X11_in
set_option maxRecDepth 20000 in
theorem ggX11_ship_X11_cellsBarred : GoodIn wsX11_ship wsX11_cellsBarred := goodIn_r _ [32, 33, 34, 35, 36, 37, 18, 38, 28, 39, 40, 41, 59, 60, 61, 62, 63, 64, 65, 66, 67, 68, 69, 70, 71, 72, 73, 74, 75, 76, 77, 78, 79, 80, 81, 82, 83, 84, 85, 86, 87, 88, 89] (by decide +kernel) (by decide +kernel)
set_option maxRecDepth 20000 in
theorem gX11_ship_X11_cellsBarred : GoodIn wsX11_ship (wsV RX11 134 RX11 yX11_cellsBarred wsX11_cellsBarred) := goodIn_app (goodIn_of _ (by decide +kernel)) ggX11_ship_X11_cellsBarred
set_option maxRecDepth 20000 in
theorem ggX11_ship_X11_readsShip : GoodIn wsX11_ship wsX11_readsShip := goodIn_r _ [45, 2, 3, 46, 47, 48, 18, 49, 50, 51, 52, 53, 54, 6, 8, 10, 55, 56, 57, 58, 21, 22, 23, 59, 60, 61, 62, 63, 64, 65, 66, 67, 68, 69, 70, 71, 72, 73, 74, 75, 76, 77, 78, 79, 80, 81, 82, 83, 84, 85, 86, 87, 88, 89] (by decide +kernel) (by decide +kernel)
set_option maxRecDepth 20000 in
theorem gX11_ship_X11_readsShip : GoodIn wsX11_ship (wsV RX11 138 RX11 yX11_readsShip wsX11_readsShip) := goodIn_app (goodIn_of _ (by decide +kernel)) ggX11_ship_X11_readsShip
theorem dX11_ship_0 : decode cX11_ship 0 = .ok (.iload_n 1, 1) := by decide +kernel
theorem dX11_ship_1 : decode cX11_ship 1 = .ok (.invokestatic 125, 3) := by decide +kernel
theorem dX11_ship_4 : decode cX11_ship 4 = .ok (.ifCond .eq 9, 3) := by decide +kernel
theorem dX11_ship_7 : decode cX11_ship 7 = .ok (.aload_n 0, 1) := by decide +kernel
theorem dX11_ship_8 : decode cX11_ship 8 = .ok (.iconst (-1), 1) := by decide +kernel
theorem dX11_ship_9 : decode cX11_ship 9 = .ok (.invokevirtual 129, 3) := by decide +kernel
theorem dX11_ship_12 : decode cX11_ship 12 = .ok (.ireturn, 1) := by decide +kernel
theorem dX11_ship_13 : decode cX11_ship 13 = .ok (.iload_n 2, 1) := by decide +kernel
theorem dX11_ship_14 : decode cX11_ship 14 = .ok (.i2l, 1) := by decide +kernel
theorem dX11_ship_15 : decode cX11_ship 15 = .ok (.lconst 0, 1) := by decide +kernel
theorem dX11_ship_16 : decode cX11_ship 16 = .ok (.ldc2_w 132, 3) := by decide +kernel
theorem dX11_ship_19 : decode cX11_ship 19 = .ok (.invokestatic 93, 3) := by decide +kernel
theorem dX11_ship_22 : decode cX11_ship 22 = .ok (.ifCond .ne 10, 3) := by decide +kernel
theorem dX11_ship_25 : decode cX11_ship 25 = .ok (.aload_n 0, 1) := by decide +kernel
theorem dX11_ship_26 : decode cX11_ship 26 = .ok (.bipush (-2), 2) := by decide +kernel
theorem dX11_ship_28 : decode cX11_ship 28 = .ok (.invokevirtual 129, 3) := by decide +kernel
theorem dX11_ship_31 : decode cX11_ship 31 = .ok (.ireturn, 1) := by decide +kernel
theorem dX11_ship_32 : decode cX11_ship 32 = .ok (.aload_n 0, 1) := by decide +kernel
theorem dX11_ship_33 : decode cX11_ship 33 = .ok (.iload_n 1, 1) := by decide +kernel
theorem dX11_ship_34 : decode cX11_ship 34 = .ok (.iload_n 2, 1) := by decide +kernel
theorem dX11_ship_35 : decode cX11_ship 35 = .ok (.iload_n 3, 1) := by decide +kernel
theorem dX11_ship_36 : decode cX11_ship 36 = .ok (.iload 4, 2) := by decide +kernel
theorem dX11_ship_38 : decode cX11_ship 38 = .ok (.i2l, 1) := by decide +kernel
theorem dX11_ship_39 : decode cX11_ship 39 = .ok (.invokevirtual 134, 3) := by decide +kernel
theorem dX11_ship_42 : decode cX11_ship 42 = .ok (.istore 5, 2) := by decide +kernel
theorem dX11_ship_44 : decode cX11_ship 44 = .ok (.iload 5, 2) := by decide +kernel
theorem dX11_ship_46 : decode cX11_ship 46 = .ok (.ifCond .ge 6, 3) := by decide +kernel
theorem dX11_ship_49 : decode cX11_ship 49 = .ok (.iload 5, 2) := by decide +kernel
theorem dX11_ship_51 : decode cX11_ship 51 = .ok (.ireturn, 1) := by decide +kernel
theorem dX11_ship_52 : decode cX11_ship 52 = .ok (.aload_n 0, 1) := by decide +kernel
theorem dX11_ship_53 : decode cX11_ship 53 = .ok (.bipush 60, 2) := by decide +kernel
theorem dX11_ship_55 : decode cX11_ship 55 = .ok (.iload_n 1, 1) := by decide +kernel
theorem dX11_ship_56 : decode cX11_ship 56 = .ok (.imul, 1) := by decide +kernel
theorem dX11_ship_57 : decode cX11_ship 57 = .ok (.iload_n 3, 1) := by decide +kernel
theorem dX11_ship_58 : decode cX11_ship 58 = .ok (.iadd, 1) := by decide +kernel
theorem dX11_ship_59 : decode cX11_ship 59 = .ok (.iload 4, 2) := by decide +kernel
theorem dX11_ship_61 : decode cX11_ship 61 = .ok (.invokevirtual 138, 3) := by decide +kernel
theorem dX11_ship_64 : decode cX11_ship 64 = .ok (.ifCond .ne 15, 3) := by decide +kernel
theorem dX11_ship_67 : decode cX11_ship 67 = .ok (.aload_n 0, 1) := by decide +kernel
theorem dX11_ship_68 : decode cX11_ship 68 = .ok (.bipush (-100), 2) := by decide +kernel
theorem dX11_ship_70 : decode cX11_ship 70 = .ok (.aload_n 0, 1) := by decide +kernel
theorem dX11_ship_71 : decode cX11_ship 71 = .ok (.getfield 99, 3) := by decide +kernel
theorem dX11_ship_74 : decode cX11_ship 74 = .ok (.isub, 1) := by decide +kernel
theorem dX11_ship_75 : decode cX11_ship 75 = .ok (.invokevirtual 129, 3) := by decide +kernel
theorem dX11_ship_78 : decode cX11_ship 78 = .ok (.ireturn, 1) := by decide +kernel
theorem dX11_ship_79 : decode cX11_ship 79 = .ok (.aload_n 0, 1) := by decide +kernel
theorem dX11_ship_80 : decode cX11_ship 80 = .ok (.aload_n 0, 1) := by decide +kernel
theorem dX11_ship_81 : decode cX11_ship 81 = .ok (.getfield 106, 3) := by decide +kernel
theorem dX11_ship_84 : decode cX11_ship 84 = .ok (.putfield 90, 3) := by decide +kernel
theorem dX11_ship_87 : decode cX11_ship 87 = .ok (.iconst 0, 1) := by decide +kernel
theorem dX11_ship_88 : decode cX11_ship 88 = .ok (.istore 6, 2) := by decide +kernel
theorem dX11_ship_90 : decode cX11_ship 90 = .ok (.iload 6, 2) := by decide +kernel
theorem dX11_ship_92 : decode cX11_ship 92 = .ok (.aload_n 0, 1) := by decide +kernel
theorem dX11_ship_93 : decode cX11_ship 93 = .ok (.getfield 90, 3) := by decide +kernel
theorem dX11_ship_96 : decode cX11_ship 96 = .ok (.if_icmp .ge 51, 3) := by decide +kernel
theorem dX11_ship_99 : decode cX11_ship 99 = .ok (.aload_n 0, 1) := by decide +kernel
theorem dX11_ship_100 : decode cX11_ship 100 = .ok (.getfield 7, 3) := by decide +kernel
theorem dX11_ship_103 : decode cX11_ship 103 = .ok (.iload 6, 2) := by decide +kernel
theorem dX11_ship_105 : decode cX11_ship 105 = .ok (.aload_n 0, 1) := by decide +kernel
theorem dX11_ship_106 : decode cX11_ship 106 = .ok (.getfield 31, 3) := by decide +kernel
theorem dX11_ship_109 : decode cX11_ship 109 = .ok (.iload 6, 2) := by decide +kernel
theorem dX11_ship_111 : decode cX11_ship 111 = .ok (.iaload, 1) := by decide +kernel
theorem dX11_ship_112 : decode cX11_ship 112 = .ok (.iastore, 1) := by decide +kernel
theorem dX11_ship_113 : decode cX11_ship 113 = .ok (.aload_n 0, 1) := by decide +kernel
theorem dX11_ship_114 : decode cX11_ship 114 = .ok (.getfield 13, 3) := by decide +kernel
theorem dX11_ship_117 : decode cX11_ship 117 = .ok (.iload 6, 2) := by decide +kernel
theorem dX11_ship_119 : decode cX11_ship 119 = .ok (.aload_n 0, 1) := by decide +kernel
theorem dX11_ship_120 : decode cX11_ship 120 = .ok (.getfield 34, 3) := by decide +kernel
theorem dX11_ship_123 : decode cX11_ship 123 = .ok (.iload 6, 2) := by decide +kernel
theorem dX11_ship_125 : decode cX11_ship 125 = .ok (.iaload, 1) := by decide +kernel
theorem dX11_ship_126 : decode cX11_ship 126 = .ok (.iastore, 1) := by decide +kernel
theorem dX11_ship_127 : decode cX11_ship 127 = .ok (.aload_n 0, 1) := by decide +kernel
theorem dX11_ship_128 : decode cX11_ship 128 = .ok (.getfield 16, 3) := by decide +kernel
theorem dX11_ship_131 : decode cX11_ship 131 = .ok (.iload 6, 2) := by decide +kernel
theorem dX11_ship_133 : decode cX11_ship 133 = .ok (.aload_n 0, 1) := by decide +kernel
theorem dX11_ship_134 : decode cX11_ship 134 = .ok (.getfield 37, 3) := by decide +kernel
theorem dX11_ship_137 : decode cX11_ship 137 = .ok (.iload 6, 2) := by decide +kernel
theorem dX11_ship_139 : decode cX11_ship 139 = .ok (.iaload, 1) := by decide +kernel
theorem dX11_ship_140 : decode cX11_ship 140 = .ok (.iastore, 1) := by decide +kernel
theorem dX11_ship_141 : decode cX11_ship 141 = .ok (.iinc 6 1, 3) := by decide +kernel
theorem dX11_ship_144 : decode cX11_ship 144 = .ok (.goto (-54), 3) := by decide +kernel
theorem dX11_ship_147 : decode cX11_ship 147 = .ok (.iconst 0, 1) := by decide +kernel
theorem dX11_ship_148 : decode cX11_ship 148 = .ok (.istore 6, 2) := by decide +kernel
theorem dX11_ship_150 : decode cX11_ship 150 = .ok (.iload 6, 2) := by decide +kernel
theorem dX11_ship_152 : decode cX11_ship 152 = .ok (.bipush 12, 2) := by decide +kernel
theorem dX11_ship_154 : decode cX11_ship 154 = .ok (.if_icmp .ge 25, 3) := by decide +kernel
theorem dX11_ship_157 : decode cX11_ship 157 = .ok (.aload_n 0, 1) := by decide +kernel
theorem dX11_ship_158 : decode cX11_ship 158 = .ok (.getfield 19, 3) := by decide +kernel
theorem dX11_ship_161 : decode cX11_ship 161 = .ok (.iload 6, 2) := by decide +kernel
theorem dX11_ship_163 : decode cX11_ship 163 = .ok (.iconst 0, 1) := by decide +kernel
theorem dX11_ship_164 : decode cX11_ship 164 = .ok (.iastore, 1) := by decide +kernel
theorem dX11_ship_165 : decode cX11_ship 165 = .ok (.aload_n 0, 1) := by decide +kernel
theorem dX11_ship_166 : decode cX11_ship 166 = .ok (.getfield 22, 3) := by decide +kernel
theorem dX11_ship_169 : decode cX11_ship 169 = .ok (.iload 6, 2) := by decide +kernel
theorem dX11_ship_171 : decode cX11_ship 171 = .ok (.iconst 0, 1) := by decide +kernel
theorem dX11_ship_172 : decode cX11_ship 172 = .ok (.iastore, 1) := by decide +kernel
theorem dX11_ship_173 : decode cX11_ship 173 = .ok (.iinc 6 1, 3) := by decide +kernel
theorem dX11_ship_176 : decode cX11_ship 176 = .ok (.goto (-26), 3) := by decide +kernel
theorem dX11_ship_179 : decode cX11_ship 179 = .ok (.aload_n 0, 1) := by decide +kernel
theorem dX11_ship_180 : decode cX11_ship 180 = .ok (.iconst 0, 1) := by decide +kernel
theorem dX11_ship_181 : decode cX11_ship 181 = .ok (.putfield 141, 3) := by decide +kernel
theorem dX11_ship_184 : decode cX11_ship 184 = .ok (.aload_n 0, 1) := by decide +kernel
theorem dX11_ship_185 : decode cX11_ship 185 = .ok (.iconst 0, 1) := by decide +kernel
theorem dX11_ship_186 : decode cX11_ship 186 = .ok (.putfield 144, 3) := by decide +kernel
theorem dX11_ship_189 : decode cX11_ship 189 = .ok (.aload_n 0, 1) := by decide +kernel
theorem dX11_ship_190 : decode cX11_ship 190 = .ok (.iconst 0, 1) := by decide +kernel
theorem dX11_ship_191 : decode cX11_ship 191 = .ok (.putfield 147, 3) := by decide +kernel
theorem dX11_ship_194 : decode cX11_ship 194 = .ok (.aload_n 0, 1) := by decide +kernel
theorem dX11_ship_195 : decode cX11_ship 195 = .ok (.aload_n 0, 1) := by decide +kernel
theorem dX11_ship_196 : decode cX11_ship 196 = .ok (.getfield 90, 3) := by decide +kernel
theorem dX11_ship_199 : decode cX11_ship 199 = .ok (.invokevirtual 129, 3) := by decide +kernel
theorem dX11_ship_202 : decode cX11_ship 202 = .ok (.ireturn, 1) := by decide +kernel
theorem dX11_harmOnce_0 : decode cX11_harmOnce 0 = .ok (.aload_n 0, 1) := by decide +kernel
theorem dX11_harmOnce_1 : decode cX11_harmOnce 1 = .ok (.getfield 7, 3) := by decide +kernel
theorem dX11_harmOnce_4 : decode cX11_harmOnce 4 = .ok (.iload_n 1, 1) := by decide +kernel
theorem dX11_harmOnce_5 : decode cX11_harmOnce 5 = .ok (.iaload, 1) := by decide +kernel
theorem dX11_harmOnce_6 : decode cX11_harmOnce 6 = .ok (.ifCond .ne 7, 3) := by decide +kernel
theorem dX11_harmOnce_9 : decode cX11_harmOnce 9 = .ok (.iconst 1, 1) := by decide +kernel
theorem dX11_harmOnce_10 : decode cX11_harmOnce 10 = .ok (.goto 18, 3) := by decide +kernel
theorem dX11_harmOnce_13 : decode cX11_harmOnce 13 = .ok (.aload_n 0, 1) := by decide +kernel
theorem dX11_harmOnce_14 : decode cX11_harmOnce 14 = .ok (.getfield 7, 3) := by decide +kernel
theorem dX11_harmOnce_17 : decode cX11_harmOnce 17 = .ok (.iload_n 1, 1) := by decide +kernel
theorem dX11_harmOnce_18 : decode cX11_harmOnce 18 = .ok (.iaload, 1) := by decide +kernel
theorem dX11_harmOnce_19 : decode cX11_harmOnce 19 = .ok (.iconst 1, 1) := by decide +kernel
theorem dX11_harmOnce_20 : decode cX11_harmOnce 20 = .ok (.if_icmp .ne 7, 3) := by decide +kernel
theorem dX11_harmOnce_23 : decode cX11_harmOnce 23 = .ok (.iconst 2, 1) := by decide +kernel
theorem dX11_harmOnce_24 : decode cX11_harmOnce 24 = .ok (.goto 4, 3) := by decide +kernel
theorem dX11_harmOnce_27 : decode cX11_harmOnce 27 = .ok (.iconst 4, 1) := by decide +kernel
theorem dX11_harmOnce_28 : decode cX11_harmOnce 28 = .ok (.ireturn, 1) := by decide +kernel
set_option maxRecDepth 20000 in
theorem ggX11_ofSleeper_X11_noSleeper : GoodIn wsX11_ofSleeper wsX11_noSleeper := goodIn_r _ [8, 9, 10, 11, 7, 12, 17, 18, 19, 20, 21, 22, 23, 24, 25, 26, 27, 28, 29, 30, 31, 32, 33, 34, 35, 36, 37, 38, 39, 40, 41, 42, 43, 44, 45, 46, 47] (by decide +kernel) (by decide +kernel)
set_option maxRecDepth 20000 in
theorem gX11_ofSleeper_X11_noSleeper : GoodIn wsX11_ofSleeper (wsV RX11 150 RX11 yX11_noSleeper wsX11_noSleeper) := goodIn_app (goodIn_of _ (by decide +kernel)) ggX11_ofSleeper_X11_noSleeper
set_option maxRecDepth 20000 in
theorem ggX11_ofSleeper_X11_harmOnce : GoodIn wsX11_ofSleeper wsX11_harmOnce := goodIn_r _ [16, 1, 17, 18, 19, 20, 21, 22, 23, 24, 25, 26, 27, 28, 29, 30, 31, 32, 33, 34, 35, 36, 37, 38, 39, 40, 41, 42, 43, 44, 45, 46, 47] (by decide +kernel) (by decide +kernel)
set_option maxRecDepth 20000 in
theorem gX11_ofSleeper_X11_harmOnce : GoodIn wsX11_ofSleeper (wsV RX11 153 RX11 yX11_harmOnce wsX11_harmOnce) := goodIn_app (goodIn_of _ (by decide +kernel)) ggX11_ofSleeper_X11_harmOnce
theorem dX11_ofSleeper_0 : decode cX11_ofSleeper 0 = .ok (.aload_n 0, 1) := by decide +kernel
theorem dX11_ofSleeper_1 : decode cX11_ofSleeper 1 = .ok (.iload_n 1, 1) := by decide +kernel
theorem dX11_ofSleeper_2 : decode cX11_ofSleeper 2 = .ok (.invokevirtual 150, 3) := by decide +kernel
theorem dX11_ofSleeper_5 : decode cX11_ofSleeper 5 = .ok (.ifCond .eq 5, 3) := by decide +kernel
theorem dX11_ofSleeper_8 : decode cX11_ofSleeper 8 = .ok (.iconst (-1), 1) := by decide +kernel
theorem dX11_ofSleeper_9 : decode cX11_ofSleeper 9 = .ok (.ireturn, 1) := by decide +kernel
theorem dX11_ofSleeper_10 : decode cX11_ofSleeper 10 = .ok (.iload_n 2, 1) := by decide +kernel
theorem dX11_ofSleeper_11 : decode cX11_ofSleeper 11 = .ok (.tableswitch 56 0 3 #[29, 36, 43, 50], 29) := by decide +kernel
theorem dX11_ofSleeper_40 : decode cX11_ofSleeper 40 = .ok (.aload_n 0, 1) := by decide +kernel
theorem dX11_ofSleeper_41 : decode cX11_ofSleeper 41 = .ok (.getfield 7, 3) := by decide +kernel
theorem dX11_ofSleeper_44 : decode cX11_ofSleeper 44 = .ok (.iload_n 1, 1) := by decide +kernel
theorem dX11_ofSleeper_45 : decode cX11_ofSleeper 45 = .ok (.iaload, 1) := by decide +kernel
theorem dX11_ofSleeper_46 : decode cX11_ofSleeper 46 = .ok (.ireturn, 1) := by decide +kernel
theorem dX11_ofSleeper_47 : decode cX11_ofSleeper 47 = .ok (.aload_n 0, 1) := by decide +kernel
theorem dX11_ofSleeper_48 : decode cX11_ofSleeper 48 = .ok (.getfield 13, 3) := by decide +kernel
theorem dX11_ofSleeper_51 : decode cX11_ofSleeper 51 = .ok (.iload_n 1, 1) := by decide +kernel
theorem dX11_ofSleeper_52 : decode cX11_ofSleeper 52 = .ok (.iaload, 1) := by decide +kernel
theorem dX11_ofSleeper_53 : decode cX11_ofSleeper 53 = .ok (.ireturn, 1) := by decide +kernel
theorem dX11_ofSleeper_54 : decode cX11_ofSleeper 54 = .ok (.aload_n 0, 1) := by decide +kernel
theorem dX11_ofSleeper_55 : decode cX11_ofSleeper 55 = .ok (.getfield 16, 3) := by decide +kernel
theorem dX11_ofSleeper_58 : decode cX11_ofSleeper 58 = .ok (.iload_n 1, 1) := by decide +kernel
theorem dX11_ofSleeper_59 : decode cX11_ofSleeper 59 = .ok (.iaload, 1) := by decide +kernel
theorem dX11_ofSleeper_60 : decode cX11_ofSleeper 60 = .ok (.ireturn, 1) := by decide +kernel
theorem dX11_ofSleeper_61 : decode cX11_ofSleeper 61 = .ok (.aload_n 0, 1) := by decide +kernel
theorem dX11_ofSleeper_62 : decode cX11_ofSleeper 62 = .ok (.iload_n 1, 1) := by decide +kernel
theorem dX11_ofSleeper_63 : decode cX11_ofSleeper 63 = .ok (.invokevirtual 153, 3) := by decide +kernel
theorem dX11_ofSleeper_66 : decode cX11_ofSleeper 66 = .ok (.ireturn, 1) := by decide +kernel
theorem dX11_ofSleeper_67 : decode cX11_ofSleeper 67 = .ok (.bipush (-2), 2) := by decide +kernel
theorem dX11_ofSleeper_69 : decode cX11_ofSleeper 69 = .ok (.ireturn, 1) := by decide +kernel
set_option maxRecDepth 20000 in
theorem ggX11_up_X11_noSleeper : GoodIn wsX11_up wsX11_noSleeper := goodIn_r _ [6, 7, 8, 9, 5, 10, 18, 19, 20, 21, 22, 23, 24, 25, 26, 27, 28, 29, 30, 31, 32, 33, 34, 35, 36, 37, 38, 39, 40, 41, 42, 43, 44, 45, 46, 47, 48] (by decide +kernel) (by decide +kernel)
set_option maxRecDepth 20000 in
theorem gX11_up_X11_noSleeper : GoodIn wsX11_up (wsV RX11 150 RX11 yX11_noSleeper wsX11_noSleeper) := goodIn_app (goodIn_of _ (by decide +kernel)) ggX11_up_X11_noSleeper
set_option maxRecDepth 20000 in
theorem ggX11_up_X11_isMonth : GoodIn wsX11_up wsX11_isMonth := goodIn_r _ [13, 14, 8, 9, 5, 10] (by decide +kernel) (by decide +kernel)
set_option maxRecDepth 20000 in
theorem gX11_up_X11_isMonth : GoodIn wsX11_up (va_wsS RX11 156 yX11_isMonth wsX11_isMonth) := goodIn_app (goodIn_of _ (by decide +kernel)) ggX11_up_X11_isMonth
set_option maxRecDepth 20000 in
theorem ggX11_up_X11_isIn : GoodIn wsX11_up wsX11_isIn := goodIn_r _ [17] (by decide +kernel) (by decide +kernel)
set_option maxRecDepth 20000 in
theorem gX11_up_X11_isIn : GoodIn wsX11_up (va_wsS RX11 159 yX11_isIn wsX11_isIn) := goodIn_app (goodIn_of _ (by decide +kernel)) ggX11_up_X11_isIn
theorem dX11_up_0 : decode cX11_up 0 = .ok (.aload_n 0, 1) := by decide +kernel
theorem dX11_up_1 : decode cX11_up 1 = .ok (.iload_n 1, 1) := by decide +kernel
theorem dX11_up_2 : decode cX11_up 2 = .ok (.invokevirtual 150, 3) := by decide +kernel
theorem dX11_up_5 : decode cX11_up 5 = .ok (.ifCond .eq 5, 3) := by decide +kernel
theorem dX11_up_8 : decode cX11_up 8 = .ok (.iconst (-1), 1) := by decide +kernel
theorem dX11_up_9 : decode cX11_up 9 = .ok (.ireturn, 1) := by decide +kernel
theorem dX11_up_10 : decode cX11_up 10 = .ok (.iload_n 2, 1) := by decide +kernel
theorem dX11_up_11 : decode cX11_up 11 = .ok (.invokestatic 156, 3) := by decide +kernel
theorem dX11_up_14 : decode cX11_up 14 = .ok (.ifCond .ne 6, 3) := by decide +kernel
theorem dX11_up_17 : decode cX11_up 17 = .ok (.bipush (-2), 2) := by decide +kernel
theorem dX11_up_19 : decode cX11_up 19 = .ok (.ireturn, 1) := by decide +kernel
theorem dX11_up_20 : decode cX11_up 20 = .ok (.aload_n 0, 1) := by decide +kernel
theorem dX11_up_21 : decode cX11_up 21 = .ok (.getfield 19, 3) := by decide +kernel
theorem dX11_up_24 : decode cX11_up 24 = .ok (.iload_n 2, 1) := by decide +kernel
theorem dX11_up_25 : decode cX11_up 25 = .ok (.iaload, 1) := by decide +kernel
theorem dX11_up_26 : decode cX11_up 26 = .ok (.iload_n 1, 1) := by decide +kernel
theorem dX11_up_27 : decode cX11_up 27 = .ok (.invokestatic 159, 3) := by decide +kernel
theorem dX11_up_30 : decode cX11_up 30 = .ok (.istore 4, 2) := by decide +kernel
theorem dX11_up_32 : decode cX11_up 32 = .ok (.aload_n 0, 1) := by decide +kernel
theorem dX11_up_33 : decode cX11_up 33 = .ok (.getfield 19, 3) := by decide +kernel
theorem dX11_up_36 : decode cX11_up 36 = .ok (.iload_n 2, 1) := by decide +kernel
theorem dX11_up_37 : decode cX11_up 37 = .ok (.iload_n 3, 1) := by decide +kernel
theorem dX11_up_38 : decode cX11_up 38 = .ok (.ifCond .eq 16, 3) := by decide +kernel
theorem dX11_up_41 : decode cX11_up 41 = .ok (.aload_n 0, 1) := by decide +kernel
theorem dX11_up_42 : decode cX11_up 42 = .ok (.getfield 19, 3) := by decide +kernel
theorem dX11_up_45 : decode cX11_up 45 = .ok (.iload_n 2, 1) := by decide +kernel
theorem dX11_up_46 : decode cX11_up 46 = .ok (.iaload, 1) := by decide +kernel
theorem dX11_up_47 : decode cX11_up 47 = .ok (.iconst 1, 1) := by decide +kernel
theorem dX11_up_48 : decode cX11_up 48 = .ok (.iload_n 1, 1) := by decide +kernel
theorem dX11_up_49 : decode cX11_up 49 = .ok (.ishl, 1) := by decide +kernel
theorem dX11_up_50 : decode cX11_up 50 = .ok (.ior, 1) := by decide +kernel
theorem dX11_up_51 : decode cX11_up 51 = .ok (.goto 15, 3) := by decide +kernel
theorem dX11_up_54 : decode cX11_up 54 = .ok (.aload_n 0, 1) := by decide +kernel
theorem dX11_up_55 : decode cX11_up 55 = .ok (.getfield 19, 3) := by decide +kernel
theorem dX11_up_58 : decode cX11_up 58 = .ok (.iload_n 2, 1) := by decide +kernel
theorem dX11_up_59 : decode cX11_up 59 = .ok (.iaload, 1) := by decide +kernel
theorem dX11_up_60 : decode cX11_up 60 = .ok (.iconst 1, 1) := by decide +kernel
theorem dX11_up_61 : decode cX11_up 61 = .ok (.iload_n 1, 1) := by decide +kernel
theorem dX11_up_62 : decode cX11_up 62 = .ok (.ishl, 1) := by decide +kernel
theorem dX11_up_63 : decode cX11_up 63 = .ok (.iconst (-1), 1) := by decide +kernel
theorem dX11_up_64 : decode cX11_up 64 = .ok (.ixor, 1) := by decide +kernel
theorem dX11_up_65 : decode cX11_up 65 = .ok (.iand, 1) := by decide +kernel
theorem dX11_up_66 : decode cX11_up 66 = .ok (.iastore, 1) := by decide +kernel
theorem dX11_up_67 : decode cX11_up 67 = .ok (.iload 4, 2) := by decide +kernel
theorem dX11_up_69 : decode cX11_up 69 = .ok (.iload_n 3, 1) := by decide +kernel
theorem dX11_up_70 : decode cX11_up 70 = .ok (.if_icmp .ne 7, 3) := by decide +kernel
theorem dX11_up_73 : decode cX11_up 73 = .ok (.iconst 0, 1) := by decide +kernel
theorem dX11_up_74 : decode cX11_up 74 = .ok (.goto 4, 3) := by decide +kernel
theorem dX11_up_77 : decode cX11_up 77 = .ok (.iconst 1, 1) := by decide +kernel
theorem dX11_up_78 : decode cX11_up 78 = .ok (.ireturn, 1) := by decide +kernel
set_option maxRecDepth 20000 in
theorem ggX11_wants_X11_isMonth : GoodIn wsX11_wants wsX11_isMonth := goodIn_r _ [7, 8, 9, 10, 6, 11] (by decide +kernel) (by decide +kernel)
set_option maxRecDepth 20000 in
theorem gX11_wants_X11_isMonth : GoodIn wsX11_wants (va_wsS RX11 156 yX11_isMonth wsX11_isMonth) := goodIn_app (goodIn_of _ (by decide +kernel)) ggX11_wants_X11_isMonth
set_option maxRecDepth 20000 in
theorem ggX11_wants_X11_in : GoodIn wsX11_wants wsX11_in := goodIn_r _ [11] (by decide +kernel) (by decide +kernel)
set_option maxRecDepth 20000 in
theorem gX11_wants_X11_in : GoodIn wsX11_wants (va_wsS RX11 93 yX11_in wsX11_in) := goodIn_app (goodIn_of _ (by decide +kernel)) ggX11_wants_X11_in
theorem dX11_wants_0 : decode cX11_wants 0 = .ok (.iload_n 1, 1) := by decide +kernel
theorem dX11_wants_1 : decode cX11_wants 1 = .ok (.invokestatic 156, 3) := by decide +kernel
theorem dX11_wants_4 : decode cX11_wants 4 = .ok (.ifCond .eq 15, 3) := by decide +kernel
theorem dX11_wants_7 : decode cX11_wants 7 = .ok (.iload_n 2, 1) := by decide +kernel
theorem dX11_wants_8 : decode cX11_wants 8 = .ok (.i2l, 1) := by decide +kernel
theorem dX11_wants_9 : decode cX11_wants 9 = .ok (.lconst 0, 1) := by decide +kernel
theorem dX11_wants_10 : decode cX11_wants 10 = .ok (.ldc2_w 162, 3) := by decide +kernel
theorem dX11_wants_13 : decode cX11_wants 13 = .ok (.invokestatic 93, 3) := by decide +kernel
theorem dX11_wants_16 : decode cX11_wants 16 = .ok (.ifCond .ne 6, 3) := by decide +kernel
theorem dX11_wants_19 : decode cX11_wants 19 = .ok (.bipush (-2), 2) := by decide +kernel
theorem dX11_wants_21 : decode cX11_wants 21 = .ok (.ireturn, 1) := by decide +kernel
theorem dX11_wants_22 : decode cX11_wants 22 = .ok (.aload_n 0, 1) := by decide +kernel
theorem dX11_wants_23 : decode cX11_wants 23 = .ok (.getfield 90, 3) := by decide +kernel
theorem dX11_wants_26 : decode cX11_wants 26 = .ok (.ifCond .ne 6, 3) := by decide +kernel
theorem dX11_wants_29 : decode cX11_wants 29 = .ok (.bipush (-3), 2) := by decide +kernel
theorem dX11_wants_31 : decode cX11_wants 31 = .ok (.ireturn, 1) := by decide +kernel
theorem dX11_wants_32 : decode cX11_wants 32 = .ok (.aload_n 0, 1) := by decide +kernel
theorem dX11_wants_33 : decode cX11_wants 33 = .ok (.getfield 22, 3) := by decide +kernel
theorem dX11_wants_36 : decode cX11_wants 36 = .ok (.iload_n 1, 1) := by decide +kernel
theorem dX11_wants_37 : decode cX11_wants 37 = .ok (.iaload, 1) := by decide +kernel
theorem dX11_wants_38 : decode cX11_wants 38 = .ok (.istore_n 3, 1) := by decide +kernel
theorem dX11_wants_39 : decode cX11_wants 39 = .ok (.aload_n 0, 1) := by decide +kernel
theorem dX11_wants_40 : decode cX11_wants 40 = .ok (.getfield 22, 3) := by decide +kernel
theorem dX11_wants_43 : decode cX11_wants 43 = .ok (.iload_n 1, 1) := by decide +kernel
theorem dX11_wants_44 : decode cX11_wants 44 = .ok (.iload_n 2, 1) := by decide +kernel
theorem dX11_wants_45 : decode cX11_wants 45 = .ok (.iastore, 1) := by decide +kernel
theorem dX11_wants_46 : decode cX11_wants 46 = .ok (.iload_n 3, 1) := by decide +kernel
theorem dX11_wants_47 : decode cX11_wants 47 = .ok (.ireturn, 1) := by decide +kernel
set_option maxRecDepth 20000 in
theorem ggX11_law_X11_in : GoodIn wsX11_law wsX11_in := goodIn_r _ [6] (by decide +kernel) (by decide +kernel)
set_option maxRecDepth 20000 in
theorem gX11_law_X11_in : GoodIn wsX11_law (va_wsS RX11 93 yX11_in wsX11_in) := goodIn_app (goodIn_of _ (by decide +kernel)) ggX11_law_X11_in
theorem dX11_law_0 : decode cX11_law 0 = .ok (.iload_n 1, 1) := by decide +kernel
theorem dX11_law_1 : decode cX11_law 1 = .ok (.i2l, 1) := by decide +kernel
theorem dX11_law_2 : decode cX11_law 2 = .ok (.lconst 0, 1) := by decide +kernel
theorem dX11_law_3 : decode cX11_law 3 = .ok (.lconst 1, 1) := by decide +kernel
theorem dX11_law_4 : decode cX11_law 4 = .ok (.invokestatic 93, 3) := by decide +kernel
theorem dX11_law_7 : decode cX11_law 7 = .ok (.ifCond .ne 6, 3) := by decide +kernel
theorem dX11_law_10 : decode cX11_law 10 = .ok (.bipush (-2), 2) := by decide +kernel
theorem dX11_law_12 : decode cX11_law 12 = .ok (.ireturn, 1) := by decide +kernel
theorem dX11_law_13 : decode cX11_law 13 = .ok (.aload_n 0, 1) := by decide +kernel
theorem dX11_law_14 : decode cX11_law 14 = .ok (.getfield 90, 3) := by decide +kernel
theorem dX11_law_17 : decode cX11_law 17 = .ok (.ifCond .ne 6, 3) := by decide +kernel
theorem dX11_law_20 : decode cX11_law 20 = .ok (.bipush (-3), 2) := by decide +kernel
theorem dX11_law_22 : decode cX11_law 22 = .ok (.ireturn, 1) := by decide +kernel
theorem dX11_law_23 : decode cX11_law 23 = .ok (.aload_n 0, 1) := by decide +kernel
theorem dX11_law_24 : decode cX11_law 24 = .ok (.getfield 141, 3) := by decide +kernel
theorem dX11_law_27 : decode cX11_law 27 = .ok (.istore_n 2, 1) := by decide +kernel
theorem dX11_law_28 : decode cX11_law 28 = .ok (.aload_n 0, 1) := by decide +kernel
theorem dX11_law_29 : decode cX11_law 29 = .ok (.iload_n 1, 1) := by decide +kernel
theorem dX11_law_30 : decode cX11_law 30 = .ok (.putfield 141, 3) := by decide +kernel
theorem dX11_law_33 : decode cX11_law 33 = .ok (.iload_n 2, 1) := by decide +kernel
theorem dX11_law_34 : decode cX11_law 34 = .ok (.ireturn, 1) := by decide +kernel
set_option maxRecDepth 20000 in
theorem ggX11_note_X11_noSleeper : GoodIn wsX11_note wsX11_noSleeper := goodIn_r _ [8, 9, 10, 11, 7, 12, 13, 14, 15, 16, 17, 18, 19, 20, 21, 22, 23, 24, 25, 26, 27, 28, 29, 30, 31, 32, 33, 34, 35, 36, 37, 38, 39, 40, 41, 42, 43] (by decide +kernel) (by decide +kernel)
set_option maxRecDepth 20000 in
theorem gX11_note_X11_noSleeper : GoodIn wsX11_note (wsV RX11 150 RX11 yX11_noSleeper wsX11_noSleeper) := goodIn_app (goodIn_of _ (by decide +kernel)) ggX11_note_X11_noSleeper
theorem dX11_note_0 : decode cX11_note 0 = .ok (.aload_n 0, 1) := by decide +kernel
theorem dX11_note_1 : decode cX11_note 1 = .ok (.iload_n 1, 1) := by decide +kernel
theorem dX11_note_2 : decode cX11_note 2 = .ok (.invokevirtual 150, 3) := by decide +kernel
theorem dX11_note_5 : decode cX11_note 5 = .ok (.ifCond .ne 16, 3) := by decide +kernel
theorem dX11_note_8 : decode cX11_note 8 = .ok (.aload_n 0, 1) := by decide +kernel
theorem dX11_note_9 : decode cX11_note 9 = .ok (.iload_n 2, 1) := by decide +kernel
theorem dX11_note_10 : decode cX11_note 10 = .ok (.invokevirtual 150, 3) := by decide +kernel
theorem dX11_note_13 : decode cX11_note 13 = .ok (.ifCond .ne 8, 3) := by decide +kernel
theorem dX11_note_16 : decode cX11_note 16 = .ok (.iload_n 1, 1) := by decide +kernel
theorem dX11_note_17 : decode cX11_note 17 = .ok (.iload_n 2, 1) := by decide +kernel
theorem dX11_note_18 : decode cX11_note 18 = .ok (.if_icmp .ne 5, 3) := by decide +kernel
theorem dX11_note_21 : decode cX11_note 21 = .ok (.iconst (-1), 1) := by decide +kernel
theorem dX11_note_22 : decode cX11_note 22 = .ok (.ireturn, 1) := by decide +kernel
theorem dX11_note_23 : decode cX11_note 23 = .ok (.aload_n 0, 1) := by decide +kernel
theorem dX11_note_24 : decode cX11_note 24 = .ok (.getfield 144, 3) := by decide +kernel
theorem dX11_note_27 : decode cX11_note 27 = .ok (.bipush 8, 2) := by decide +kernel
theorem dX11_note_29 : decode cX11_note 29 = .ok (.if_icmp .ne 6, 3) := by decide +kernel
theorem dX11_note_32 : decode cX11_note 32 = .ok (.bipush (-4), 2) := by decide +kernel
theorem dX11_note_34 : decode cX11_note 34 = .ok (.ireturn, 1) := by decide +kernel
theorem dX11_note_35 : decode cX11_note 35 = .ok (.aload_n 0, 1) := by decide +kernel
theorem dX11_note_36 : decode cX11_note 36 = .ok (.getfield 25, 3) := by decide +kernel
theorem dX11_note_39 : decode cX11_note 39 = .ok (.aload_n 0, 1) := by decide +kernel
theorem dX11_note_40 : decode cX11_note 40 = .ok (.getfield 144, 3) := by decide +kernel
theorem dX11_note_43 : decode cX11_note 43 = .ok (.iload_n 1, 1) := by decide +kernel
theorem dX11_note_44 : decode cX11_note 44 = .ok (.iastore, 1) := by decide +kernel
theorem dX11_note_45 : decode cX11_note 45 = .ok (.aload_n 0, 1) := by decide +kernel
theorem dX11_note_46 : decode cX11_note 46 = .ok (.getfield 28, 3) := by decide +kernel
theorem dX11_note_49 : decode cX11_note 49 = .ok (.aload_n 0, 1) := by decide +kernel
theorem dX11_note_50 : decode cX11_note 50 = .ok (.getfield 144, 3) := by decide +kernel
theorem dX11_note_53 : decode cX11_note 53 = .ok (.iload_n 2, 1) := by decide +kernel
theorem dX11_note_54 : decode cX11_note 54 = .ok (.iastore, 1) := by decide +kernel
theorem dX11_note_55 : decode cX11_note 55 = .ok (.aload_n 0, 1) := by decide +kernel
theorem dX11_note_56 : decode cX11_note 56 = .ok (.dup, 1) := by decide +kernel
theorem dX11_note_57 : decode cX11_note 57 = .ok (.getfield 144, 3) := by decide +kernel
theorem dX11_note_60 : decode cX11_note 60 = .ok (.iconst 1, 1) := by decide +kernel
theorem dX11_note_61 : decode cX11_note 61 = .ok (.iadd, 1) := by decide +kernel
theorem dX11_note_62 : decode cX11_note 62 = .ok (.putfield 144, 3) := by decide +kernel
theorem dX11_note_65 : decode cX11_note 65 = .ok (.aload_n 0, 1) := by decide +kernel
theorem dX11_note_66 : decode cX11_note 66 = .ok (.getfield 144, 3) := by decide +kernel
theorem dX11_note_69 : decode cX11_note 69 = .ok (.iconst 1, 1) := by decide +kernel
theorem dX11_note_70 : decode cX11_note 70 = .ok (.isub, 1) := by decide +kernel
theorem dX11_note_71 : decode cX11_note 71 = .ok (.ireturn, 1) := by decide +kernel
set_option maxRecDepth 20000 in
theorem ggX11_tear_X11_in : GoodIn wsX11_tear wsX11_in := goodIn_r _ [5] (by decide +kernel) (by decide +kernel)
set_option maxRecDepth 20000 in
theorem gX11_tear_X11_in : GoodIn wsX11_tear (va_wsS RX11 93 yX11_in wsX11_in) := goodIn_app (goodIn_of _ (by decide +kernel)) ggX11_tear_X11_in
theorem dX11_tear_0 : decode cX11_tear 0 = .ok (.iload_n 1, 1) := by decide +kernel
theorem dX11_tear_1 : decode cX11_tear 1 = .ok (.i2l, 1) := by decide +kernel
theorem dX11_tear_2 : decode cX11_tear 2 = .ok (.lconst 0, 1) := by decide +kernel
theorem dX11_tear_3 : decode cX11_tear 3 = .ok (.aload_n 0, 1) := by decide +kernel
theorem dX11_tear_4 : decode cX11_tear 4 = .ok (.getfield 144, 3) := by decide +kernel
theorem dX11_tear_7 : decode cX11_tear 7 = .ok (.i2l, 1) := by decide +kernel
theorem dX11_tear_8 : decode cX11_tear 8 = .ok (.invokestatic 93, 3) := by decide +kernel
theorem dX11_tear_11 : decode cX11_tear 11 = .ok (.ifCond .ne 6, 3) := by decide +kernel
theorem dX11_tear_14 : decode cX11_tear 14 = .ok (.bipush (-2), 2) := by decide +kernel
theorem dX11_tear_16 : decode cX11_tear 16 = .ok (.ireturn, 1) := by decide +kernel
theorem dX11_tear_17 : decode cX11_tear 17 = .ok (.aload_n 0, 1) := by decide +kernel
theorem dX11_tear_18 : decode cX11_tear 18 = .ok (.dup, 1) := by decide +kernel
theorem dX11_tear_19 : decode cX11_tear 19 = .ok (.getfield 144, 3) := by decide +kernel
theorem dX11_tear_22 : decode cX11_tear 22 = .ok (.iload_n 1, 1) := by decide +kernel
theorem dX11_tear_23 : decode cX11_tear 23 = .ok (.isub, 1) := by decide +kernel
theorem dX11_tear_24 : decode cX11_tear 24 = .ok (.putfield 144, 3) := by decide +kernel
theorem dX11_tear_27 : decode cX11_tear 27 = .ok (.aload_n 0, 1) := by decide +kernel
theorem dX11_tear_28 : decode cX11_tear 28 = .ok (.getfield 144, 3) := by decide +kernel
theorem dX11_tear_31 : decode cX11_tear 31 = .ok (.ireturn, 1) := by decide +kernel
theorem dX11_meanTold_0 : decode cX11_meanTold 0 = .ok (.iconst 0, 1) := by decide +kernel
theorem dX11_meanTold_1 : decode cX11_meanTold 1 = .ok (.istore_n 1, 1) := by decide +kernel
theorem dX11_meanTold_2 : decode cX11_meanTold 2 = .ok (.iload_n 1, 1) := by decide +kernel
theorem dX11_meanTold_3 : decode cX11_meanTold 3 = .ok (.bipush 12, 2) := by decide +kernel
theorem dX11_meanTold_5 : decode cX11_meanTold 5 = .ok (.if_icmp .ge 21, 3) := by decide +kernel
theorem dX11_meanTold_8 : decode cX11_meanTold 8 = .ok (.aload_n 0, 1) := by decide +kernel
theorem dX11_meanTold_9 : decode cX11_meanTold 9 = .ok (.getfield 40, 3) := by decide +kernel
theorem dX11_meanTold_12 : decode cX11_meanTold 12 = .ok (.iload_n 1, 1) := by decide +kernel
theorem dX11_meanTold_13 : decode cX11_meanTold 13 = .ok (.aload_n 0, 1) := by decide +kernel
theorem dX11_meanTold_14 : decode cX11_meanTold 14 = .ok (.getfield 19, 3) := by decide +kernel
theorem dX11_meanTold_17 : decode cX11_meanTold 17 = .ok (.iload_n 1, 1) := by decide +kernel
theorem dX11_meanTold_18 : decode cX11_meanTold 18 = .ok (.iaload, 1) := by decide +kernel
theorem dX11_meanTold_19 : decode cX11_meanTold 19 = .ok (.iastore, 1) := by decide +kernel
theorem dX11_meanTold_20 : decode cX11_meanTold 20 = .ok (.iinc 1 1, 3) := by decide +kernel
theorem dX11_meanTold_23 : decode cX11_meanTold 23 = .ok (.goto (-21), 3) := by decide +kernel
theorem dX11_meanTold_26 : decode cX11_meanTold 26 = .ok (.return_, 1) := by decide +kernel
set_option maxRecDepth 20000 in
theorem ggX11_togetherIn_X11_isIn : GoodIn wsX11_togetherIn wsX11_isIn := goodIn_r _ [7] (by decide +kernel) (by decide +kernel)
set_option maxRecDepth 20000 in
theorem gX11_togetherIn_X11_isIn : GoodIn wsX11_togetherIn (va_wsS RX11 159 yX11_isIn wsX11_isIn) := goodIn_app (goodIn_of _ (by decide +kernel)) ggX11_togetherIn_X11_isIn
theorem dX11_togetherIn_0 : decode cX11_togetherIn 0 = .ok (.iconst 0, 1) := by decide +kernel
theorem dX11_togetherIn_1 : decode cX11_togetherIn 1 = .ok (.istore_n 2, 1) := by decide +kernel
theorem dX11_togetherIn_2 : decode cX11_togetherIn 2 = .ok (.iconst 0, 1) := by decide +kernel
theorem dX11_togetherIn_3 : decode cX11_togetherIn 3 = .ok (.istore_n 3, 1) := by decide +kernel
theorem dX11_togetherIn_4 : decode cX11_togetherIn 4 = .ok (.iload_n 3, 1) := by decide +kernel
theorem dX11_togetherIn_5 : decode cX11_togetherIn 5 = .ok (.aload_n 0, 1) := by decide +kernel
theorem dX11_togetherIn_6 : decode cX11_togetherIn 6 = .ok (.getfield 90, 3) := by decide +kernel
theorem dX11_togetherIn_9 : decode cX11_togetherIn 9 = .ok (.if_icmp .ge 40, 3) := by decide +kernel
theorem dX11_togetherIn_12 : decode cX11_togetherIn 12 = .ok (.iload_n 2, 1) := by decide +kernel
theorem dX11_togetherIn_13 : decode cX11_togetherIn 13 = .ok (.aload_n 0, 1) := by decide +kernel
theorem dX11_togetherIn_14 : decode cX11_togetherIn 14 = .ok (.getfield 40, 3) := by decide +kernel
theorem dX11_togetherIn_17 : decode cX11_togetherIn 17 = .ok (.iload_n 1, 1) := by decide +kernel
theorem dX11_togetherIn_18 : decode cX11_togetherIn 18 = .ok (.iaload, 1) := by decide +kernel
theorem dX11_togetherIn_19 : decode cX11_togetherIn 19 = .ok (.iload_n 3, 1) := by decide +kernel
theorem dX11_togetherIn_20 : decode cX11_togetherIn 20 = .ok (.invokestatic 159, 3) := by decide +kernel
theorem dX11_togetherIn_23 : decode cX11_togetherIn 23 = .ok (.ifCond .eq 17, 3) := by decide +kernel
theorem dX11_togetherIn_26 : decode cX11_togetherIn 26 = .ok (.aload_n 0, 1) := by decide +kernel
theorem dX11_togetherIn_27 : decode cX11_togetherIn 27 = .ok (.getfield 43, 3) := by decide +kernel
theorem dX11_togetherIn_30 : decode cX11_togetherIn 30 = .ok (.bipush 6, 2) := by decide +kernel
theorem dX11_togetherIn_32 : decode cX11_togetherIn 32 = .ok (.iload_n 1, 1) := by decide +kernel
theorem dX11_togetherIn_33 : decode cX11_togetherIn 33 = .ok (.imul, 1) := by decide +kernel
theorem dX11_togetherIn_34 : decode cX11_togetherIn 34 = .ok (.iload_n 3, 1) := by decide +kernel
theorem dX11_togetherIn_35 : decode cX11_togetherIn 35 = .ok (.iadd, 1) := by decide +kernel
theorem dX11_togetherIn_36 : decode cX11_togetherIn 36 = .ok (.iaload, 1) := by decide +kernel
theorem dX11_togetherIn_37 : decode cX11_togetherIn 37 = .ok (.goto 4, 3) := by decide +kernel
theorem dX11_togetherIn_40 : decode cX11_togetherIn 40 = .ok (.iconst 0, 1) := by decide +kernel
theorem dX11_togetherIn_41 : decode cX11_togetherIn 41 = .ok (.ior, 1) := by decide +kernel
theorem dX11_togetherIn_42 : decode cX11_togetherIn 42 = .ok (.istore_n 2, 1) := by decide +kernel
theorem dX11_togetherIn_43 : decode cX11_togetherIn 43 = .ok (.iinc 3 1, 3) := by decide +kernel
theorem dX11_togetherIn_46 : decode cX11_togetherIn 46 = .ok (.goto (-42), 3) := by decide +kernel
theorem dX11_togetherIn_49 : decode cX11_togetherIn 49 = .ok (.iload_n 2, 1) := by decide +kernel
theorem dX11_togetherIn_50 : decode cX11_togetherIn 50 = .ok (.ireturn, 1) := by decide +kernel
set_option maxRecDepth 20000 in
theorem ggX11_isThawed_X11_isIn : GoodIn wsX11_isThawed wsX11_isIn := goodIn_r _ [5] (by decide +kernel) (by decide +kernel)
set_option maxRecDepth 20000 in
theorem gX11_isThawed_X11_isIn : GoodIn wsX11_isThawed (va_wsS RX11 159 yX11_isIn wsX11_isIn) := goodIn_app (goodIn_of _ (by decide +kernel)) ggX11_isThawed_X11_isIn
theorem dX11_isThawed_0 : decode cX11_isThawed 0 = .ok (.aload_n 0, 1) := by decide +kernel
theorem dX11_isThawed_1 : decode cX11_isThawed 1 = .ok (.getfield 40, 3) := by decide +kernel
theorem dX11_isThawed_4 : decode cX11_isThawed 4 = .ok (.iload_n 2, 1) := by decide +kernel
theorem dX11_isThawed_5 : decode cX11_isThawed 5 = .ok (.iaload, 1) := by decide +kernel
theorem dX11_isThawed_6 : decode cX11_isThawed 6 = .ok (.iload_n 1, 1) := by decide +kernel
theorem dX11_isThawed_7 : decode cX11_isThawed 7 = .ok (.invokestatic 159, 3) := by decide +kernel
theorem dX11_isThawed_10 : decode cX11_isThawed 10 = .ok (.ifCond .eq 26, 3) := by decide +kernel
theorem dX11_isThawed_13 : decode cX11_isThawed 13 = .ok (.iload_n 2, 1) := by decide +kernel
theorem dX11_isThawed_14 : decode cX11_isThawed 14 = .ok (.ifCond .eq 18, 3) := by decide +kernel
theorem dX11_isThawed_17 : decode cX11_isThawed 17 = .ok (.aload_n 0, 1) := by decide +kernel
theorem dX11_isThawed_18 : decode cX11_isThawed 18 = .ok (.getfield 40, 3) := by decide +kernel
theorem dX11_isThawed_21 : decode cX11_isThawed 21 = .ok (.iload_n 2, 1) := by decide +kernel
theorem dX11_isThawed_22 : decode cX11_isThawed 22 = .ok (.iconst 1, 1) := by decide +kernel
theorem dX11_isThawed_23 : decode cX11_isThawed 23 = .ok (.isub, 1) := by decide +kernel
theorem dX11_isThawed_24 : decode cX11_isThawed 24 = .ok (.iaload, 1) := by decide +kernel
theorem dX11_isThawed_25 : decode cX11_isThawed 25 = .ok (.iload_n 1, 1) := by decide +kernel
theorem dX11_isThawed_26 : decode cX11_isThawed 26 = .ok (.invokestatic 159, 3) := by decide +kernel
theorem dX11_isThawed_29 : decode cX11_isThawed 29 = .ok (.ifCond .ne 7, 3) := by decide +kernel
theorem dX11_isThawed_32 : decode cX11_isThawed 32 = .ok (.iconst 1, 1) := by decide +kernel
theorem dX11_isThawed_33 : decode cX11_isThawed 33 = .ok (.goto 4, 3) := by decide +kernel
theorem dX11_isThawed_36 : decode cX11_isThawed 36 = .ok (.iconst 0, 1) := by decide +kernel
theorem dX11_isThawed_37 : decode cX11_isThawed 37 = .ok (.ireturn, 1) := by decide +kernel
set_option maxRecDepth 20000 in
theorem ggX11_goMonths_X11_togetherIn : GoodIn wsX11_goMonths wsX11_togetherIn := goodIn_r _ [11, 1, 3, 4, 12, 13, 10, 14, 24, 25, 26, 27, 28, 29, 30, 31, 32, 33, 34, 35, 36, 37, 38, 39, 40, 41, 42, 43, 44, 45, 46, 47, 48, 49, 50, 51, 52, 53, 54] (by decide +kernel) (by decide +kernel)
set_option maxRecDepth 20000 in
theorem gX11_goMonths_X11_togetherIn : GoodIn wsX11_goMonths (wsV RX11 164 RX11 yX11_togetherIn wsX11_togetherIn) := goodIn_app (goodIn_of _ (by decide +kernel)) ggX11_goMonths_X11_togetherIn
set_option maxRecDepth 20000 in
theorem ggX11_goMonths_X11_isIn : GoodIn wsX11_goMonths wsX11_isIn := goodIn_r _ [14] (by decide +kernel) (by decide +kernel)
set_option maxRecDepth 20000 in
theorem gX11_goMonths_X11_isIn : GoodIn wsX11_goMonths (va_wsS RX11 159 yX11_isIn wsX11_isIn) := goodIn_app (goodIn_of _ (by decide +kernel)) ggX11_goMonths_X11_isIn
set_option maxRecDepth 20000 in
theorem ggX11_goMonths_X11_isThawed : GoodIn wsX11_goMonths wsX11_isThawed := goodIn_r _ [18, 3, 12, 13, 10, 14, 24, 25, 26, 27, 28, 29, 30, 31, 32, 33, 34, 35, 36, 37, 38, 39, 40, 41, 42, 43, 44, 45, 46, 47, 48, 49, 50, 51, 52, 53, 54] (by decide +kernel) (by decide +kernel)
set_option maxRecDepth 20000 in
theorem gX11_goMonths_X11_isThawed : GoodIn wsX11_goMonths (wsV RX11 167 RX11 yX11_isThawed wsX11_isThawed) := goodIn_app (goodIn_of _ (by decide +kernel)) ggX11_goMonths_X11_isThawed
set_option maxRecDepth 20000 in
theorem ggX11_goMonths_X11_harmOnce : GoodIn wsX11_goMonths wsX11_harmOnce := goodIn_r _ [22, 23, 24, 25, 26, 27, 28, 29, 30, 31, 32, 33, 34, 35, 36, 37, 38, 39, 40, 41, 42, 43, 44, 45, 46, 47, 48, 49, 50, 51, 52, 53, 54] (by decide +kernel) (by decide +kernel)
set_option maxRecDepth 20000 in
theorem gX11_goMonths_X11_harmOnce : GoodIn wsX11_goMonths (wsV RX11 153 RX11 yX11_harmOnce wsX11_harmOnce) := goodIn_app (goodIn_of _ (by decide +kernel)) ggX11_goMonths_X11_harmOnce
theorem dX11_goMonths_0 : decode cX11_goMonths 0 = .ok (.iconst 0, 1) := by decide +kernel
theorem dX11_goMonths_1 : decode cX11_goMonths 1 = .ok (.istore_n 1, 1) := by decide +kernel
theorem dX11_goMonths_2 : decode cX11_goMonths 2 = .ok (.iload_n 1, 1) := by decide +kernel
theorem dX11_goMonths_3 : decode cX11_goMonths 3 = .ok (.bipush 12, 2) := by decide +kernel
theorem dX11_goMonths_5 : decode cX11_goMonths 5 = .ok (.if_icmp .ge 168, 3) := by decide +kernel
theorem dX11_goMonths_8 : decode cX11_goMonths 8 = .ok (.iload_n 1, 1) := by decide +kernel
theorem dX11_goMonths_9 : decode cX11_goMonths 9 = .ok (.ifCond .ne 7, 3) := by decide +kernel
theorem dX11_goMonths_12 : decode cX11_goMonths 12 = .ok (.iconst 0, 1) := by decide +kernel
theorem dX11_goMonths_13 : decode cX11_goMonths 13 = .ok (.goto 10, 3) := by decide +kernel
theorem dX11_goMonths_16 : decode cX11_goMonths 16 = .ok (.aload_n 0, 1) := by decide +kernel
theorem dX11_goMonths_17 : decode cX11_goMonths 17 = .ok (.iload_n 1, 1) := by decide +kernel
theorem dX11_goMonths_18 : decode cX11_goMonths 18 = .ok (.iconst 1, 1) := by decide +kernel
theorem dX11_goMonths_19 : decode cX11_goMonths 19 = .ok (.isub, 1) := by decide +kernel
theorem dX11_goMonths_20 : decode cX11_goMonths 20 = .ok (.invokevirtual 164, 3) := by decide +kernel
theorem dX11_goMonths_23 : decode cX11_goMonths 23 = .ok (.istore_n 2, 1) := by decide +kernel
theorem dX11_goMonths_24 : decode cX11_goMonths 24 = .ok (.iconst 0, 1) := by decide +kernel
theorem dX11_goMonths_25 : decode cX11_goMonths 25 = .ok (.istore_n 3, 1) := by decide +kernel
theorem dX11_goMonths_26 : decode cX11_goMonths 26 = .ok (.iload_n 3, 1) := by decide +kernel
theorem dX11_goMonths_27 : decode cX11_goMonths 27 = .ok (.aload_n 0, 1) := by decide +kernel
theorem dX11_goMonths_28 : decode cX11_goMonths 28 = .ok (.getfield 90, 3) := by decide +kernel
theorem dX11_goMonths_31 : decode cX11_goMonths 31 = .ok (.if_icmp .ge 136, 3) := by decide +kernel
theorem dX11_goMonths_34 : decode cX11_goMonths 34 = .ok (.bipush 6, 2) := by decide +kernel
theorem dX11_goMonths_36 : decode cX11_goMonths 36 = .ok (.iload_n 1, 1) := by decide +kernel
theorem dX11_goMonths_37 : decode cX11_goMonths 37 = .ok (.imul, 1) := by decide +kernel
theorem dX11_goMonths_38 : decode cX11_goMonths 38 = .ok (.iload_n 3, 1) := by decide +kernel
theorem dX11_goMonths_39 : decode cX11_goMonths 39 = .ok (.iadd, 1) := by decide +kernel
theorem dX11_goMonths_40 : decode cX11_goMonths 40 = .ok (.istore 4, 2) := by decide +kernel
theorem dX11_goMonths_42 : decode cX11_goMonths 42 = .ok (.aload_n 0, 1) := by decide +kernel
theorem dX11_goMonths_43 : decode cX11_goMonths 43 = .ok (.getfield 141, 3) := by decide +kernel
theorem dX11_goMonths_46 : decode cX11_goMonths 46 = .ok (.iconst 1, 1) := by decide +kernel
theorem dX11_goMonths_47 : decode cX11_goMonths 47 = .ok (.if_icmp .ne 26, 3) := by decide +kernel
theorem dX11_goMonths_50 : decode cX11_goMonths 50 = .ok (.iload_n 1, 1) := by decide +kernel
theorem dX11_goMonths_51 : decode cX11_goMonths 51 = .ok (.ifCond .le 22, 3) := by decide +kernel
theorem dX11_goMonths_54 : decode cX11_goMonths 54 = .ok (.aload_n 0, 1) := by decide +kernel
theorem dX11_goMonths_55 : decode cX11_goMonths 55 = .ok (.getfield 40, 3) := by decide +kernel
theorem dX11_goMonths_58 : decode cX11_goMonths 58 = .ok (.iload_n 1, 1) := by decide +kernel
theorem dX11_goMonths_59 : decode cX11_goMonths 59 = .ok (.iconst 1, 1) := by decide +kernel
theorem dX11_goMonths_60 : decode cX11_goMonths 60 = .ok (.isub, 1) := by decide +kernel
theorem dX11_goMonths_61 : decode cX11_goMonths 61 = .ok (.iaload, 1) := by decide +kernel
theorem dX11_goMonths_62 : decode cX11_goMonths 62 = .ok (.iload_n 3, 1) := by decide +kernel
theorem dX11_goMonths_63 : decode cX11_goMonths 63 = .ok (.invokestatic 159, 3) := by decide +kernel
theorem dX11_goMonths_66 : decode cX11_goMonths 66 = .ok (.ifCond .eq 7, 3) := by decide +kernel
theorem dX11_goMonths_69 : decode cX11_goMonths 69 = .ok (.iconst 1, 1) := by decide +kernel
theorem dX11_goMonths_70 : decode cX11_goMonths 70 = .ok (.goto 4, 3) := by decide +kernel
theorem dX11_goMonths_73 : decode cX11_goMonths 73 = .ok (.iconst 0, 1) := by decide +kernel
theorem dX11_goMonths_74 : decode cX11_goMonths 74 = .ok (.istore 5, 2) := by decide +kernel
theorem dX11_goMonths_76 : decode cX11_goMonths 76 = .ok (.aload_n 0, 1) := by decide +kernel
theorem dX11_goMonths_77 : decode cX11_goMonths 77 = .ok (.getfield 43, 3) := by decide +kernel
theorem dX11_goMonths_80 : decode cX11_goMonths 80 = .ok (.iload 4, 2) := by decide +kernel
theorem dX11_goMonths_82 : decode cX11_goMonths 82 = .ok (.iload_n 1, 1) := by decide +kernel
theorem dX11_goMonths_83 : decode cX11_goMonths 83 = .ok (.ifCond .ne 12, 3) := by decide +kernel
theorem dX11_goMonths_86 : decode cX11_goMonths 86 = .ok (.aload_n 0, 1) := by decide +kernel
theorem dX11_goMonths_87 : decode cX11_goMonths 87 = .ok (.getfield 13, 3) := by decide +kernel
theorem dX11_goMonths_90 : decode cX11_goMonths 90 = .ok (.iload_n 3, 1) := by decide +kernel
theorem dX11_goMonths_91 : decode cX11_goMonths 91 = .ok (.iaload, 1) := by decide +kernel
theorem dX11_goMonths_92 : decode cX11_goMonths 92 = .ok (.goto 24, 3) := by decide +kernel
theorem dX11_goMonths_95 : decode cX11_goMonths 95 = .ok (.aload_n 0, 1) := by decide +kernel
theorem dX11_goMonths_96 : decode cX11_goMonths 96 = .ok (.getfield 43, 3) := by decide +kernel
theorem dX11_goMonths_99 : decode cX11_goMonths 99 = .ok (.iload 4, 2) := by decide +kernel
theorem dX11_goMonths_101 : decode cX11_goMonths 101 = .ok (.bipush 6, 2) := by decide +kernel
theorem dX11_goMonths_103 : decode cX11_goMonths 103 = .ok (.isub, 1) := by decide +kernel
theorem dX11_goMonths_104 : decode cX11_goMonths 104 = .ok (.iaload, 1) := by decide +kernel
theorem dX11_goMonths_105 : decode cX11_goMonths 105 = .ok (.iload 5, 2) := by decide +kernel
theorem dX11_goMonths_107 : decode cX11_goMonths 107 = .ok (.ifCond .eq 7, 3) := by decide +kernel
theorem dX11_goMonths_110 : decode cX11_goMonths 110 = .ok (.iload_n 2, 1) := by decide +kernel
theorem dX11_goMonths_111 : decode cX11_goMonths 111 = .ok (.goto 4, 3) := by decide +kernel
theorem dX11_goMonths_114 : decode cX11_goMonths 114 = .ok (.iconst 0, 1) := by decide +kernel
theorem dX11_goMonths_115 : decode cX11_goMonths 115 = .ok (.ior, 1) := by decide +kernel
theorem dX11_goMonths_116 : decode cX11_goMonths 116 = .ok (.iastore, 1) := by decide +kernel
theorem dX11_goMonths_117 : decode cX11_goMonths 117 = .ok (.aload_n 0, 1) := by decide +kernel
theorem dX11_goMonths_118 : decode cX11_goMonths 118 = .ok (.getfield 46, 3) := by decide +kernel
theorem dX11_goMonths_121 : decode cX11_goMonths 121 = .ok (.iload 4, 2) := by decide +kernel
theorem dX11_goMonths_123 : decode cX11_goMonths 123 = .ok (.iload_n 1, 1) := by decide +kernel
theorem dX11_goMonths_124 : decode cX11_goMonths 124 = .ok (.ifCond .ne 7, 3) := by decide +kernel
theorem dX11_goMonths_127 : decode cX11_goMonths 127 = .ok (.iconst 0, 1) := by decide +kernel
theorem dX11_goMonths_128 : decode cX11_goMonths 128 = .ok (.goto 13, 3) := by decide +kernel
theorem dX11_goMonths_131 : decode cX11_goMonths 131 = .ok (.aload_n 0, 1) := by decide +kernel
theorem dX11_goMonths_132 : decode cX11_goMonths 132 = .ok (.getfield 46, 3) := by decide +kernel
theorem dX11_goMonths_135 : decode cX11_goMonths 135 = .ok (.iload 4, 2) := by decide +kernel
theorem dX11_goMonths_137 : decode cX11_goMonths 137 = .ok (.bipush 6, 2) := by decide +kernel
theorem dX11_goMonths_139 : decode cX11_goMonths 139 = .ok (.isub, 1) := by decide +kernel
theorem dX11_goMonths_140 : decode cX11_goMonths 140 = .ok (.iaload, 1) := by decide +kernel
theorem dX11_goMonths_141 : decode cX11_goMonths 141 = .ok (.aload_n 0, 1) := by decide +kernel
theorem dX11_goMonths_142 : decode cX11_goMonths 142 = .ok (.iload_n 3, 1) := by decide +kernel
theorem dX11_goMonths_143 : decode cX11_goMonths 143 = .ok (.iload_n 1, 1) := by decide +kernel
theorem dX11_goMonths_144 : decode cX11_goMonths 144 = .ok (.invokevirtual 167, 3) := by decide +kernel
theorem dX11_goMonths_147 : decode cX11_goMonths 147 = .ok (.ifCond .eq 11, 3) := by decide +kernel
theorem dX11_goMonths_150 : decode cX11_goMonths 150 = .ok (.aload_n 0, 1) := by decide +kernel
theorem dX11_goMonths_151 : decode cX11_goMonths 151 = .ok (.iload_n 3, 1) := by decide +kernel
theorem dX11_goMonths_152 : decode cX11_goMonths 152 = .ok (.invokevirtual 153, 3) := by decide +kernel
theorem dX11_goMonths_155 : decode cX11_goMonths 155 = .ok (.goto 4, 3) := by decide +kernel
theorem dX11_goMonths_158 : decode cX11_goMonths 158 = .ok (.iconst 0, 1) := by decide +kernel
theorem dX11_goMonths_159 : decode cX11_goMonths 159 = .ok (.iadd, 1) := by decide +kernel
theorem dX11_goMonths_160 : decode cX11_goMonths 160 = .ok (.iastore, 1) := by decide +kernel
theorem dX11_goMonths_161 : decode cX11_goMonths 161 = .ok (.iinc 3 1, 3) := by decide +kernel
theorem dX11_goMonths_164 : decode cX11_goMonths 164 = .ok (.goto (-138), 3) := by decide +kernel
theorem dX11_goMonths_167 : decode cX11_goMonths 167 = .ok (.iinc 1 1, 3) := by decide +kernel
theorem dX11_goMonths_170 : decode cX11_goMonths 170 = .ok (.goto (-168), 3) := by decide +kernel
theorem dX11_goMonths_173 : decode cX11_goMonths 173 = .ok (.return_, 1) := by decide +kernel
set_option maxRecDepth 20000 in
theorem ggX11_goTold_X11_meanTold : GoodIn wsX11_goTold wsX11_meanTold := goodIn_r _ [5, 6, 7, 33, 34, 35, 36, 37, 38, 39, 40, 41, 42, 43, 44, 45, 46, 47, 48, 49, 50, 51, 52, 53, 54, 55, 56, 57, 58, 59, 60, 61, 62, 63] (by decide +kernel) (by decide +kernel)
set_option maxRecDepth 20000 in
theorem gX11_goTold_X11_meanTold : GoodIn wsX11_goTold (wsV RX11 170 RX11 yX11_meanTold wsX11_meanTold) := goodIn_app (goodIn_of _ (by decide +kernel)) ggX11_goTold_X11_meanTold
set_option maxRecDepth 20000 in
theorem ggX11_goTold_X11_goMonths : GoodIn wsX11_goTold wsX11_goMonths := goodIn_r _ [11, 12, 13, 6, 14, 15, 16, 17, 18, 19, 4, 20, 21, 22, 23, 24, 25, 26, 27, 28, 29, 30, 31, 32, 33, 34, 35, 36, 37, 38, 39, 40, 41, 42, 43, 44, 45, 46, 47, 48, 49, 50, 51, 52, 53, 54, 55, 56, 57, 58, 59, 60, 61, 62, 63] (by decide +kernel) (by decide +kernel)
set_option maxRecDepth 20000 in
theorem gX11_goTold_X11_goMonths : GoodIn wsX11_goTold (wsV RX11 173 RX11 yX11_goMonths wsX11_goMonths) := goodIn_app (goodIn_of _ (by decide +kernel)) ggX11_goTold_X11_goMonths
theorem dX11_goTold_0 : decode cX11_goTold 0 = .ok (.aload_n 0, 1) := by decide +kernel
theorem dX11_goTold_1 : decode cX11_goTold 1 = .ok (.invokevirtual 170, 3) := by decide +kernel
theorem dX11_goTold_4 : decode cX11_goTold 4 = .ok (.aload_n 0, 1) := by decide +kernel
theorem dX11_goTold_5 : decode cX11_goTold 5 = .ok (.invokevirtual 173, 3) := by decide +kernel
theorem dX11_goTold_8 : decode cX11_goTold 8 = .ok (.return_, 1) := by decide +kernel
set_option maxRecDepth 20000 in
theorem ggX11_awake_X11_isMonth : GoodIn wsX11_awake wsX11_isMonth := goodIn_r _ [6, 7, 8, 9, 5, 10] (by decide +kernel) (by decide +kernel)
set_option maxRecDepth 20000 in
theorem gX11_awake_X11_isMonth : GoodIn wsX11_awake (va_wsS RX11 156 yX11_isMonth wsX11_isMonth) := goodIn_app (goodIn_of _ (by decide +kernel)) ggX11_awake_X11_isMonth
theorem dX11_awake_0 : decode cX11_awake 0 = .ok (.iload_n 1, 1) := by decide +kernel
theorem dX11_awake_1 : decode cX11_awake 1 = .ok (.invokestatic 156, 3) := by decide +kernel
theorem dX11_awake_4 : decode cX11_awake 4 = .ok (.ifCond .ne 6, 3) := by decide +kernel
theorem dX11_awake_7 : decode cX11_awake 7 = .ok (.bipush (-2), 2) := by decide +kernel
theorem dX11_awake_9 : decode cX11_awake 9 = .ok (.ireturn, 1) := by decide +kernel
theorem dX11_awake_10 : decode cX11_awake 10 = .ok (.aload_n 0, 1) := by decide +kernel
theorem dX11_awake_11 : decode cX11_awake 11 = .ok (.getfield 90, 3) := by decide +kernel
theorem dX11_awake_14 : decode cX11_awake 14 = .ok (.ifCond .ne 8, 3) := by decide +kernel
theorem dX11_awake_17 : decode cX11_awake 17 = .ok (.bipush (-3), 2) := by decide +kernel
theorem dX11_awake_19 : decode cX11_awake 19 = .ok (.goto 9, 3) := by decide +kernel
theorem dX11_awake_22 : decode cX11_awake 22 = .ok (.aload_n 0, 1) := by decide +kernel
theorem dX11_awake_23 : decode cX11_awake 23 = .ok (.getfield 19, 3) := by decide +kernel
theorem dX11_awake_26 : decode cX11_awake 26 = .ok (.iload_n 1, 1) := by decide +kernel
theorem dX11_awake_27 : decode cX11_awake 27 = .ok (.iaload, 1) := by decide +kernel
theorem dX11_awake_28 : decode cX11_awake 28 = .ok (.ireturn, 1) := by decide +kernel
set_option maxRecDepth 20000 in
theorem ggX11_harm_X11_noSleeper : GoodIn wsX11_harm wsX11_noSleeper := goodIn_r _ [6, 7, 8, 9, 5, 10, 48, 49, 50, 51, 52, 53, 54, 55, 56, 57, 58, 59, 60, 61, 62, 63, 64, 65, 66, 67, 68, 69, 70, 71, 72, 73, 74, 75, 76, 77, 78] (by decide +kernel) (by decide +kernel)
set_option maxRecDepth 20000 in
theorem gX11_harm_X11_noSleeper : GoodIn wsX11_harm (wsV RX11 150 RX11 yX11_noSleeper wsX11_noSleeper) := goodIn_app (goodIn_of _ (by decide +kernel)) ggX11_harm_X11_noSleeper
set_option maxRecDepth 20000 in
theorem ggX11_harm_X11_isMonth : GoodIn wsX11_harm wsX11_isMonth := goodIn_r _ [13, 14, 8, 9, 5, 10] (by decide +kernel) (by decide +kernel)
set_option maxRecDepth 20000 in
theorem gX11_harm_X11_isMonth : GoodIn wsX11_harm (va_wsS RX11 156 yX11_isMonth wsX11_isMonth) := goodIn_app (goodIn_of _ (by decide +kernel)) ggX11_harm_X11_isMonth
set_option maxRecDepth 20000 in
theorem ggX11_harm_X11_goTold : GoodIn wsX11_harm wsX11_goTold := goodIn_r _ [18, 19, 20, 21, 5, 22, 23, 24, 25, 26, 27, 28, 7, 29, 30, 31, 1, 32, 33, 34, 35, 36, 37, 38, 39, 40, 41, 42, 43, 44, 45, 46, 47, 48, 49, 50, 51, 52, 53, 54, 55, 56, 57, 58, 59, 60, 61, 62, 63, 64, 65, 66, 67, 68, 69, 70, 71, 72, 73, 74, 75, 76, 77, 78] (by decide +kernel) (by decide +kernel)
set_option maxRecDepth 20000 in
theorem gX11_harm_X11_goTold : GoodIn wsX11_harm (wsV RX11 176 RX11 yX11_goTold wsX11_goTold) := goodIn_app (goodIn_of _ (by decide +kernel)) ggX11_harm_X11_goTold
theorem dX11_harm_0 : decode cX11_harm 0 = .ok (.aload_n 0, 1) := by decide +kernel
theorem dX11_harm_1 : decode cX11_harm 1 = .ok (.iload_n 1, 1) := by decide +kernel
theorem dX11_harm_2 : decode cX11_harm 2 = .ok (.invokevirtual 150, 3) := by decide +kernel
theorem dX11_harm_5 : decode cX11_harm 5 = .ok (.ifCond .eq 5, 3) := by decide +kernel
theorem dX11_harm_8 : decode cX11_harm 8 = .ok (.iconst (-1), 1) := by decide +kernel
theorem dX11_harm_9 : decode cX11_harm 9 = .ok (.ireturn, 1) := by decide +kernel
theorem dX11_harm_10 : decode cX11_harm 10 = .ok (.iload_n 2, 1) := by decide +kernel
theorem dX11_harm_11 : decode cX11_harm 11 = .ok (.invokestatic 156, 3) := by decide +kernel
theorem dX11_harm_14 : decode cX11_harm 14 = .ok (.ifCond .ne 6, 3) := by decide +kernel
theorem dX11_harm_17 : decode cX11_harm 17 = .ok (.bipush (-2), 2) := by decide +kernel
theorem dX11_harm_19 : decode cX11_harm 19 = .ok (.ireturn, 1) := by decide +kernel
theorem dX11_harm_20 : decode cX11_harm 20 = .ok (.aload_n 0, 1) := by decide +kernel
theorem dX11_harm_21 : decode cX11_harm 21 = .ok (.invokevirtual 176, 3) := by decide +kernel
theorem dX11_harm_24 : decode cX11_harm 24 = .ok (.aload_n 0, 1) := by decide +kernel
theorem dX11_harm_25 : decode cX11_harm 25 = .ok (.getfield 46, 3) := by decide +kernel
theorem dX11_harm_28 : decode cX11_harm 28 = .ok (.bipush 6, 2) := by decide +kernel
theorem dX11_harm_30 : decode cX11_harm 30 = .ok (.iload_n 2, 1) := by decide +kernel
theorem dX11_harm_31 : decode cX11_harm 31 = .ok (.imul, 1) := by decide +kernel
theorem dX11_harm_32 : decode cX11_harm 32 = .ok (.iload_n 1, 1) := by decide +kernel
theorem dX11_harm_33 : decode cX11_harm 33 = .ok (.iadd, 1) := by decide +kernel
