theorem dX3_init_1 : decode cX3_init 1 = .ok (.invokespecial 3, 3) := by decide +kernel
theorem dX3_init_4 : decode cX3_init 4 = .ok (.aload_n 0, 1) := by decide +kernel
theorem dX3_init_5 : decode cX3_init 5 = .ok (.bipush 6, 2) := by decide +kernel
theorem dX3_init_7 : decode cX3_init 7 = .ok (.newarray .int, 2) := by decide +kernel
theorem dX3_init_9 : decode cX3_init 9 = .ok (.putfield 9, 3) := by decide +kernel
theorem dX3_init_12 : decode cX3_init 12 = .ok (.aload_n 0, 1) := by decide +kernel
theorem dX3_init_13 : decode cX3_init 13 = .ok (.bipush 6, 2) := by decide +kernel
theorem dX3_init_15 : decode cX3_init 15 = .ok (.newarray .int, 2) := by decide +kernel
theorem dX3_init_17 : decode cX3_init 17 = .ok (.putfield 15, 3) := by decide +kernel
theorem dX3_init_20 : decode cX3_init 20 = .ok (.aload_n 0, 1) := by decide +kernel
theorem dX3_init_21 : decode cX3_init 21 = .ok (.iconst 0, 1) := by decide +kernel
theorem dX3_init_22 : decode cX3_init 22 = .ok (.putfield 18, 3) := by decide +kernel
theorem dX3_init_25 : decode cX3_init 25 = .ok (.aload_n 0, 1) := by decide +kernel
theorem dX3_init_26 : decode cX3_init 26 = .ok (.iconst 0, 1) := by decide +kernel
theorem dX3_init_27 : decode cX3_init 27 = .ok (.putfield 22, 3) := by decide +kernel
theorem dX3_init_30 : decode cX3_init 30 = .ok (.aload_n 0, 1) := by decide +kernel
theorem dX3_init_31 : decode cX3_init 31 = .ok (.aload_n 1, 1) := by decide +kernel
theorem dX3_init_32 : decode cX3_init 32 = .ok (.putfield 25, 3) := by decide +kernel
theorem dX3_init_35 : decode cX3_init 35 = .ok (.return_, 1) := by decide +kernel
set_option maxRecDepth 20000 in
theorem ggX3_goTo_X3_begin : GoodIn wsX3_goTo wsX3_begin := goodIn_r _ [7, 1, 8, 9, 10, 11, 12, 13, 14, 56, 57, 58, 59, 60, 61, 62, 63, 64, 65, 66, 67, 68, 69, 70, 71, 72, 73, 74, 75, 76] (by decide +kernel) (by decide +kernel)
set_option maxRecDepth 20000 in
theorem gX3_goTo_X3_begin : GoodIn wsX3_goTo (wsV RX3 29 RX3 yX3_begin wsX3_begin) := goodIn_app (goodIn_of _ (by decide +kernel)) ggX3_goTo_X3_begin
set_option maxRecDepth 20000 in
theorem ggX3_goTo_X3_enter : GoodIn wsX3_goTo wsX3_enter := goodIn_r _ [18, 1, 19, 14, 13, 20, 21, 22, 6, 23, 8, 10, 24, 25, 26, 27, 28, 29, 30, 31, 32, 33, 34, 9, 11, 35, 36, 37, 38, 39, 40, 41, 42, 43, 44, 45, 46, 47, 48, 49, 50, 51, 52, 53, 54, 55, 56, 57, 58, 59, 60, 61, 62, 63, 64, 65, 66, 67] (by decide +kernel) (by decide +kernel)
set_option maxRecDepth 20000 in
theorem gX3_goTo_X3_enter : GoodIn wsX3_goTo (wsV RX3 37 RX3 yX3_enter wsX3_enter) := goodIn_app (goodIn_of _ (by decide +kernel)) ggX3_goTo_X3_enter
theorem dX3_goTo_0 : decode cX3_goTo 0 = .ok (.aload_n 0, 1) := by decide +kernel
theorem dX3_goTo_1 : decode cX3_goTo 1 = .ok (.invokevirtual 29, 3) := by decide +kernel
theorem dX3_goTo_4 : decode cX3_goTo 4 = .ok (.iconst 0, 1) := by decide +kernel
theorem dX3_goTo_5 : decode cX3_goTo 5 = .ok (.istore_n 3, 1) := by decide +kernel
theorem dX3_goTo_6 : decode cX3_goTo 6 = .ok (.iload_n 3, 1) := by decide +kernel
theorem dX3_goTo_7 : decode cX3_goTo 7 = .ok (.iload_n 2, 1) := by decide +kernel
theorem dX3_goTo_8 : decode cX3_goTo 8 = .ok (.if_icmp .gt 25, 3) := by decide +kernel
theorem dX3_goTo_11 : decode cX3_goTo 11 = .ok (.aload_n 0, 1) := by decide +kernel
theorem dX3_goTo_12 : decode cX3_goTo 12 = .ok (.aload_n 1, 1) := by decide +kernel
theorem dX3_goTo_13 : decode cX3_goTo 13 = .ok (.iload_n 3, 1) := by decide +kernel
theorem dX3_goTo_14 : decode cX3_goTo 14 = .ok (.iaload, 1) := by decide +kernel
theorem dX3_goTo_15 : decode cX3_goTo 15 = .ok (.aload_n 0, 1) := by decide +kernel
theorem dX3_goTo_16 : decode cX3_goTo 16 = .ok (.getfield 25, 3) := by decide +kernel
theorem dX3_goTo_19 : decode cX3_goTo 19 = .ok (.getfield 32, 3) := by decide +kernel
theorem dX3_goTo_22 : decode cX3_goTo 22 = .ok (.iload_n 3, 1) := by decide +kernel
theorem dX3_goTo_23 : decode cX3_goTo 23 = .ok (.iaload, 1) := by decide +kernel
theorem dX3_goTo_24 : decode cX3_goTo 24 = .ok (.invokevirtual 37, 3) := by decide +kernel
theorem dX3_goTo_27 : decode cX3_goTo 27 = .ok (.iinc 3 1, 3) := by decide +kernel
theorem dX3_goTo_30 : decode cX3_goTo 30 = .ok (.goto (-24), 3) := by decide +kernel
theorem dX3_goTo_33 : decode cX3_goTo 33 = .ok (.return_, 1) := by decide +kernel
set_option maxRecDepth 20000 in
theorem ggX3_firstWrong_X3_begin : GoodIn wsX3_firstWrong wsX3_begin := goodIn_r _ [8, 1, 9, 10, 11, 12, 13, 3, 14, 61, 62, 63, 64, 65, 66, 67, 68, 69, 70, 71, 72, 73, 74, 75, 76, 77, 78, 79, 80, 81] (by decide +kernel) (by decide +kernel)
set_option maxRecDepth 20000 in
theorem gX3_firstWrong_X3_begin : GoodIn wsX3_firstWrong (wsV RX3 29 RX3 yX3_begin wsX3_begin) := goodIn_app (goodIn_of _ (by decide +kernel)) ggX3_firstWrong_X3_begin
set_option maxRecDepth 20000 in
theorem ggX3_firstWrong_X3_enter : GoodIn wsX3_firstWrong wsX3_enter := goodIn_r _ [18, 1, 19, 14, 3, 20, 21, 22, 7, 23, 9, 11, 24, 25, 26, 27, 28, 29, 30, 31, 32, 33, 34, 10, 12, 35, 36, 37, 38, 39, 40, 41, 42, 43, 44, 45, 46, 47, 48, 49, 50, 51, 52, 53, 54, 55, 61, 62, 63, 64, 65, 66, 67, 68, 69, 70, 71, 72] (by decide +kernel) (by decide +kernel)
set_option maxRecDepth 20000 in
theorem gX3_firstWrong_X3_enter : GoodIn wsX3_firstWrong (wsV RX3 37 RX3 yX3_enter wsX3_enter) := goodIn_app (goodIn_of _ (by decide +kernel)) ggX3_firstWrong_X3_enter
set_option maxRecDepth 20000 in
theorem ggX3_firstWrong_X3_whoIsSpent : GoodIn wsX3_firstWrong wsX3_whoIsSpent := goodIn_r _ [59, 1, 9, 10, 12, 60, 61, 62, 63, 64, 65, 66, 67, 68, 69, 70, 71, 72, 73, 74, 75, 76, 77, 78, 79, 80, 81] (by decide +kernel) (by decide +kernel)
set_option maxRecDepth 20000 in
theorem gX3_firstWrong_X3_whoIsSpent : GoodIn wsX3_firstWrong (wsV RX3 41 RX3 yX3_whoIsSpent wsX3_whoIsSpent) := goodIn_app (goodIn_of _ (by decide +kernel)) ggX3_firstWrong_X3_whoIsSpent
theorem dX3_firstWrong_0 : decode cX3_firstWrong 0 = .ok (.aload_n 0, 1) := by decide +kernel
theorem dX3_firstWrong_1 : decode cX3_firstWrong 1 = .ok (.invokevirtual 29, 3) := by decide +kernel
theorem dX3_firstWrong_4 : decode cX3_firstWrong 4 = .ok (.iconst 0, 1) := by decide +kernel
theorem dX3_firstWrong_5 : decode cX3_firstWrong 5 = .ok (.istore 5, 2) := by decide +kernel
theorem dX3_firstWrong_7 : decode cX3_firstWrong 7 = .ok (.iload 5, 2) := by decide +kernel
theorem dX3_firstWrong_9 : decode cX3_firstWrong 9 = .ok (.iload_n 2, 1) := by decide +kernel
theorem dX3_firstWrong_10 : decode cX3_firstWrong 10 = .ok (.if_icmp .ge 55, 3) := by decide +kernel
theorem dX3_firstWrong_13 : decode cX3_firstWrong 13 = .ok (.aload_n 0, 1) := by decide +kernel
theorem dX3_firstWrong_14 : decode cX3_firstWrong 14 = .ok (.aload_n 1, 1) := by decide +kernel
theorem dX3_firstWrong_15 : decode cX3_firstWrong 15 = .ok (.iload 5, 2) := by decide +kernel
theorem dX3_firstWrong_17 : decode cX3_firstWrong 17 = .ok (.iaload, 1) := by decide +kernel
theorem dX3_firstWrong_18 : decode cX3_firstWrong 18 = .ok (.aload_n 0, 1) := by decide +kernel
theorem dX3_firstWrong_19 : decode cX3_firstWrong 19 = .ok (.getfield 25, 3) := by decide +kernel
theorem dX3_firstWrong_22 : decode cX3_firstWrong 22 = .ok (.getfield 32, 3) := by decide +kernel
theorem dX3_firstWrong_25 : decode cX3_firstWrong 25 = .ok (.iload 5, 2) := by decide +kernel
theorem dX3_firstWrong_27 : decode cX3_firstWrong 27 = .ok (.iaload, 1) := by decide +kernel
theorem dX3_firstWrong_28 : decode cX3_firstWrong 28 = .ok (.invokevirtual 37, 3) := by decide +kernel
theorem dX3_firstWrong_31 : decode cX3_firstWrong 31 = .ok (.iload_n 3, 1) := by decide +kernel
theorem dX3_firstWrong_32 : decode cX3_firstWrong 32 = .ok (.ifCond .eq 10, 3) := by decide +kernel
theorem dX3_firstWrong_35 : decode cX3_firstWrong 35 = .ok (.aload_n 0, 1) := by decide +kernel
theorem dX3_firstWrong_36 : decode cX3_firstWrong 36 = .ok (.getfield 18, 3) := by decide +kernel
theorem dX3_firstWrong_39 : decode cX3_firstWrong 39 = .ok (.ifCond .ne 17, 3) := by decide +kernel
theorem dX3_firstWrong_42 : decode cX3_firstWrong 42 = .ok (.iload 4, 2) := by decide +kernel
theorem dX3_firstWrong_44 : decode cX3_firstWrong 44 = .ok (.ifCond .eq 15, 3) := by decide +kernel
theorem dX3_firstWrong_47 : decode cX3_firstWrong 47 = .ok (.aload_n 0, 1) := by decide +kernel
theorem dX3_firstWrong_48 : decode cX3_firstWrong 48 = .ok (.invokevirtual 41, 3) := by decide +kernel
theorem dX3_firstWrong_51 : decode cX3_firstWrong 51 = .ok (.bipush (-9), 2) := by decide +kernel
theorem dX3_firstWrong_53 : decode cX3_firstWrong 53 = .ok (.if_icmp .eq 6, 3) := by decide +kernel
theorem dX3_firstWrong_56 : decode cX3_firstWrong 56 = .ok (.iload 5, 2) := by decide +kernel
theorem dX3_firstWrong_58 : decode cX3_firstWrong 58 = .ok (.ireturn, 1) := by decide +kernel
theorem dX3_firstWrong_59 : decode cX3_firstWrong 59 = .ok (.iinc 5 1, 3) := by decide +kernel
theorem dX3_firstWrong_62 : decode cX3_firstWrong 62 = .ok (.goto (-55), 3) := by decide +kernel
theorem dX3_firstWrong_65 : decode cX3_firstWrong 65 = .ok (.bipush (-9), 2) := by decide +kernel
theorem dX3_firstWrong_67 : decode cX3_firstWrong 67 = .ok (.ireturn, 1) := by decide +kernel
theorem dX3_whoIsSpent_0 : decode cX3_whoIsSpent 0 = .ok (.iconst 0, 1) := by decide +kernel
theorem dX3_whoIsSpent_1 : decode cX3_whoIsSpent 1 = .ok (.istore_n 1, 1) := by decide +kernel
theorem dX3_whoIsSpent_2 : decode cX3_whoIsSpent 2 = .ok (.iload_n 1, 1) := by decide +kernel
theorem dX3_whoIsSpent_3 : decode cX3_whoIsSpent 3 = .ok (.aload_n 0, 1) := by decide +kernel
theorem dX3_whoIsSpent_4 : decode cX3_whoIsSpent 4 = .ok (.getfield 25, 3) := by decide +kernel
theorem dX3_whoIsSpent_7 : decode cX3_whoIsSpent 7 = .ok (.getfield 45, 3) := by decide +kernel
theorem dX3_whoIsSpent_10 : decode cX3_whoIsSpent 10 = .ok (.if_icmp .ge 32, 3) := by decide +kernel
theorem dX3_whoIsSpent_13 : decode cX3_whoIsSpent 13 = .ok (.aload_n 0, 1) := by decide +kernel
theorem dX3_whoIsSpent_14 : decode cX3_whoIsSpent 14 = .ok (.getfield 9, 3) := by decide +kernel
theorem dX3_whoIsSpent_17 : decode cX3_whoIsSpent 17 = .ok (.iload_n 1, 1) := by decide +kernel
theorem dX3_whoIsSpent_18 : decode cX3_whoIsSpent 18 = .ok (.iaload, 1) := by decide +kernel
theorem dX3_whoIsSpent_19 : decode cX3_whoIsSpent 19 = .ok (.aload_n 0, 1) := by decide +kernel
theorem dX3_whoIsSpent_20 : decode cX3_whoIsSpent 20 = .ok (.getfield 25, 3) := by decide +kernel
theorem dX3_whoIsSpent_23 : decode cX3_whoIsSpent 23 = .ok (.getfield 48, 3) := by decide +kernel
theorem dX3_whoIsSpent_26 : decode cX3_whoIsSpent 26 = .ok (.iload_n 1, 1) := by decide +kernel
theorem dX3_whoIsSpent_27 : decode cX3_whoIsSpent 27 = .ok (.aaload, 1) := by decide +kernel
theorem dX3_whoIsSpent_28 : decode cX3_whoIsSpent 28 = .ok (.getfield 52, 3) := by decide +kernel
theorem dX3_whoIsSpent_31 : decode cX3_whoIsSpent 31 = .ok (.if_icmp .le 5, 3) := by decide +kernel
theorem dX3_whoIsSpent_34 : decode cX3_whoIsSpent 34 = .ok (.iload_n 1, 1) := by decide +kernel
theorem dX3_whoIsSpent_35 : decode cX3_whoIsSpent 35 = .ok (.ireturn, 1) := by decide +kernel
theorem dX3_whoIsSpent_36 : decode cX3_whoIsSpent 36 = .ok (.iinc 1 1, 3) := by decide +kernel
theorem dX3_whoIsSpent_39 : decode cX3_whoIsSpent 39 = .ok (.goto (-37), 3) := by decide +kernel
theorem dX3_whoIsSpent_42 : decode cX3_whoIsSpent 42 = .ok (.bipush (-9), 2) := by decide +kernel
theorem dX3_whoIsSpent_44 : decode cX3_whoIsSpent 44 = .ok (.ireturn, 1) := by decide +kernel
theorem dX3_begin_0 : decode cX3_begin 0 = .ok (.iconst 0, 1) := by decide +kernel
theorem dX3_begin_1 : decode cX3_begin 1 = .ok (.istore_n 1, 1) := by decide +kernel
theorem dX3_begin_2 : decode cX3_begin 2 = .ok (.iload_n 1, 1) := by decide +kernel
theorem dX3_begin_3 : decode cX3_begin 3 = .ok (.aload_n 0, 1) := by decide +kernel
theorem dX3_begin_4 : decode cX3_begin 4 = .ok (.getfield 25, 3) := by decide +kernel
theorem dX3_begin_7 : decode cX3_begin 7 = .ok (.getfield 45, 3) := by decide +kernel
theorem dX3_begin_10 : decode cX3_begin 10 = .ok (.if_icmp .ge 34, 3) := by decide +kernel
theorem dX3_begin_13 : decode cX3_begin 13 = .ok (.aload_n 0, 1) := by decide +kernel
theorem dX3_begin_14 : decode cX3_begin 14 = .ok (.getfield 9, 3) := by decide +kernel
theorem dX3_begin_17 : decode cX3_begin 17 = .ok (.iload_n 1, 1) := by decide +kernel
theorem dX3_begin_18 : decode cX3_begin 18 = .ok (.iconst 0, 1) := by decide +kernel
theorem dX3_begin_19 : decode cX3_begin 19 = .ok (.iastore, 1) := by decide +kernel
theorem dX3_begin_20 : decode cX3_begin 20 = .ok (.aload_n 0, 1) := by decide +kernel
theorem dX3_begin_21 : decode cX3_begin 21 = .ok (.getfield 15, 3) := by decide +kernel
theorem dX3_begin_24 : decode cX3_begin 24 = .ok (.iload_n 1, 1) := by decide +kernel
theorem dX3_begin_25 : decode cX3_begin 25 = .ok (.aload_n 0, 1) := by decide +kernel
theorem dX3_begin_26 : decode cX3_begin 26 = .ok (.getfield 25, 3) := by decide +kernel
theorem dX3_begin_29 : decode cX3_begin 29 = .ok (.getfield 48, 3) := by decide +kernel
theorem dX3_begin_32 : decode cX3_begin 32 = .ok (.iload_n 1, 1) := by decide +kernel
theorem dX3_begin_33 : decode cX3_begin 33 = .ok (.aaload, 1) := by decide +kernel
theorem dX3_begin_34 : decode cX3_begin 34 = .ok (.getfield 57, 3) := by decide +kernel
theorem dX3_begin_37 : decode cX3_begin 37 = .ok (.iastore, 1) := by decide +kernel
theorem dX3_begin_38 : decode cX3_begin 38 = .ok (.iinc 1 1, 3) := by decide +kernel
theorem dX3_begin_41 : decode cX3_begin 41 = .ok (.goto (-39), 3) := by decide +kernel
theorem dX3_begin_44 : decode cX3_begin 44 = .ok (.aload_n 0, 1) := by decide +kernel
theorem dX3_begin_45 : decode cX3_begin 45 = .ok (.iconst 0, 1) := by decide +kernel
theorem dX3_begin_46 : decode cX3_begin 46 = .ok (.putfield 18, 3) := by decide +kernel
theorem dX3_begin_49 : decode cX3_begin 49 = .ok (.aload_n 0, 1) := by decide +kernel
theorem dX3_begin_50 : decode cX3_begin 50 = .ok (.iconst 0, 1) := by decide +kernel
theorem dX3_begin_51 : decode cX3_begin 51 = .ok (.putfield 22, 3) := by decide +kernel
theorem dX3_begin_54 : decode cX3_begin 54 = .ok (.return_, 1) := by decide +kernel
set_option maxRecDepth 20000 in
theorem ggX3_enter_X3_teachEachOther : GoodIn wsX3_enter wsX3_teachEachOther := goodIn_r _ [9, 1, 10, 11, 12, 13, 14, 8, 15, 16, 17, 18, 46, 47, 48, 49, 50, 51, 52, 53, 54, 55, 56, 57] (by decide +kernel) (by decide +kernel)
set_option maxRecDepth 20000 in
theorem gX3_enter_X3_teachEachOther : GoodIn wsX3_enter (wsV RX3 63 RX3 yX3_teachEachOther wsX3_teachEachOther) := goodIn_app (goodIn_of _ (by decide +kernel)) ggX3_enter_X3_teachEachOther
set_option maxRecDepth 20000 in
theorem ggX3_enter_X3_thaw : GoodIn wsX3_enter wsX3_thaw := goodIn_r _ [22, 1, 10, 23, 24, 16, 17, 18, 25, 26, 27, 28, 29, 30, 31, 32, 33, 34, 35, 36, 37, 38, 39, 40, 41, 42, 43, 44, 45, 46, 47, 48, 49, 50, 51, 52, 53, 54, 55, 56, 57] (by decide +kernel) (by decide +kernel)
set_option maxRecDepth 20000 in
theorem gX3_enter_X3_thaw : GoodIn wsX3_enter (wsV RX3 67 RX3 yX3_thaw wsX3_thaw) := goodIn_app (goodIn_of _ (by decide +kernel)) ggX3_enter_X3_thaw
set_option maxRecDepth 20000 in
theorem ggX3_enter_X3_knownBy : GoodIn wsX3_enter wsX3_knownBy := goodIn_r _ [15, 1, 10, 11, 16, 17, 18, 46, 47, 48, 49, 50, 51, 52, 53, 54, 55, 56, 57] (by decide +kernel) (by decide +kernel)
set_option maxRecDepth 20000 in
theorem gX3_enter_X3_knownBy : GoodIn wsX3_enter (wsV RX3 70 RX3 yX3_knownBy wsX3_knownBy) := goodIn_app (goodIn_of _ (by decide +kernel)) ggX3_enter_X3_knownBy
theorem dX3_enter_0 : decode cX3_enter 0 = .ok (.aload_n 0, 1) := by decide +kernel
theorem dX3_enter_1 : decode cX3_enter 1 = .ok (.getfield 25, 3) := by decide +kernel
theorem dX3_enter_4 : decode cX3_enter 4 = .ok (.getfield 60, 3) := by decide +kernel
theorem dX3_enter_7 : decode cX3_enter 7 = .ok (.iconst 1, 1) := by decide +kernel
theorem dX3_enter_8 : decode cX3_enter 8 = .ok (.if_icmp .ne 11, 3) := by decide +kernel
theorem dX3_enter_11 : decode cX3_enter 11 = .ok (.aload_n 0, 1) := by decide +kernel
theorem dX3_enter_12 : decode cX3_enter 12 = .ok (.aload_n 0, 1) := by decide +kernel
theorem dX3_enter_13 : decode cX3_enter 13 = .ok (.getfield 22, 3) := by decide +kernel
theorem dX3_enter_16 : decode cX3_enter 16 = .ok (.invokevirtual 63, 3) := by decide +kernel
theorem dX3_enter_19 : decode cX3_enter 19 = .ok (.aload_n 0, 1) := by decide +kernel
theorem dX3_enter_20 : decode cX3_enter 20 = .ok (.iload_n 1, 1) := by decide +kernel
theorem dX3_enter_21 : decode cX3_enter 21 = .ok (.aload_n 0, 1) := by decide +kernel
theorem dX3_enter_22 : decode cX3_enter 22 = .ok (.getfield 22, 3) := by decide +kernel
theorem dX3_enter_25 : decode cX3_enter 25 = .ok (.iconst (-1), 1) := by decide +kernel
theorem dX3_enter_26 : decode cX3_enter 26 = .ok (.ixor, 1) := by decide +kernel
theorem dX3_enter_27 : decode cX3_enter 27 = .ok (.iand, 1) := by decide +kernel
theorem dX3_enter_28 : decode cX3_enter 28 = .ok (.invokevirtual 67, 3) := by decide +kernel
theorem dX3_enter_31 : decode cX3_enter 31 = .ok (.aload_n 0, 1) := by decide +kernel
theorem dX3_enter_32 : decode cX3_enter 32 = .ok (.iload_n 2, 1) := by decide +kernel
theorem dX3_enter_33 : decode cX3_enter 33 = .ok (.aload_n 0, 1) := by decide +kernel
theorem dX3_enter_34 : decode cX3_enter 34 = .ok (.iload_n 1, 1) := by decide +kernel
theorem dX3_enter_35 : decode cX3_enter 35 = .ok (.invokevirtual 70, 3) := by decide +kernel
theorem dX3_enter_38 : decode cX3_enter 38 = .ok (.iconst (-1), 1) := by decide +kernel
theorem dX3_enter_39 : decode cX3_enter 39 = .ok (.ixor, 1) := by decide +kernel
theorem dX3_enter_40 : decode cX3_enter 40 = .ok (.iand, 1) := by decide +kernel
theorem dX3_enter_41 : decode cX3_enter 41 = .ok (.putfield 18, 3) := by decide +kernel
theorem dX3_enter_44 : decode cX3_enter 44 = .ok (.aload_n 0, 1) := by decide +kernel
theorem dX3_enter_45 : decode cX3_enter 45 = .ok (.iload_n 1, 1) := by decide +kernel
theorem dX3_enter_46 : decode cX3_enter 46 = .ok (.putfield 22, 3) := by decide +kernel
theorem dX3_enter_49 : decode cX3_enter 49 = .ok (.return_, 1) := by decide +kernel
set_option maxRecDepth 20000 in
theorem ggX3_teachEachOther_X3_knownBy : GoodIn wsX3_teachEachOther wsX3_knownBy := goodIn_r _ [8, 1, 2, 3, 9, 10, 11, 12, 13, 14, 15, 16, 17, 18, 19, 20, 21, 22, 23] (by decide +kernel) (by decide +kernel)
set_option maxRecDepth 20000 in
theorem gX3_teachEachOther_X3_knownBy : GoodIn wsX3_teachEachOther (wsV RX3 70 RX3 yX3_knownBy wsX3_knownBy) := goodIn_app (goodIn_of _ (by decide +kernel)) ggX3_teachEachOther_X3_knownBy
set_option maxRecDepth 20000 in
theorem ggX3_teachEachOther_X10_isIn : GoodIn wsX3_teachEachOther wsX10_isIn := goodIn_r _ [11] (by decide +kernel) (by decide +kernel)
set_option maxRecDepth 20000 in
theorem gX3_teachEachOther_X10_isIn_n74 : GoodIn wsX3_teachEachOther (wsX10_isIn) := ggX3_teachEachOther_X10_isIn
theorem dX3_teachEachOther_0 : decode cX3_teachEachOther 0 = .ok (.aload_n 0, 1) := by decide +kernel
theorem dX3_teachEachOther_1 : decode cX3_teachEachOther 1 = .ok (.iload_n 1, 1) := by decide +kernel
theorem dX3_teachEachOther_2 : decode cX3_teachEachOther 2 = .ok (.invokevirtual 70, 3) := by decide +kernel
theorem dX3_teachEachOther_5 : decode cX3_teachEachOther 5 = .ok (.istore_n 2, 1) := by decide +kernel
theorem dX3_teachEachOther_6 : decode cX3_teachEachOther 6 = .ok (.iconst 0, 1) := by decide +kernel
theorem dX3_teachEachOther_7 : decode cX3_teachEachOther 7 = .ok (.istore_n 3, 1) := by decide +kernel
theorem dX3_teachEachOther_8 : decode cX3_teachEachOther 8 = .ok (.iload_n 3, 1) := by decide +kernel
theorem dX3_teachEachOther_9 : decode cX3_teachEachOther 9 = .ok (.aload_n 0, 1) := by decide +kernel
theorem dX3_teachEachOther_10 : decode cX3_teachEachOther 10 = .ok (.getfield 25, 3) := by decide +kernel
theorem dX3_teachEachOther_13 : decode cX3_teachEachOther 13 = .ok (.getfield 45, 3) := by decide +kernel
theorem dX3_teachEachOther_16 : decode cX3_teachEachOther 16 = .ok (.if_icmp .ge 24, 3) := by decide +kernel
theorem dX3_teachEachOther_19 : decode cX3_teachEachOther 19 = .ok (.iload_n 1, 1) := by decide +kernel
theorem dX3_teachEachOther_20 : decode cX3_teachEachOther 20 = .ok (.iload_n 3, 1) := by decide +kernel
theorem dX3_teachEachOther_21 : decode cX3_teachEachOther 21 = .ok (.invokestatic 74, 3) := by decide +kernel
theorem dX3_teachEachOther_24 : decode cX3_teachEachOther 24 = .ok (.ifCond .eq 10, 3) := by decide +kernel
theorem dX3_teachEachOther_27 : decode cX3_teachEachOther 27 = .ok (.aload_n 0, 1) := by decide +kernel
theorem dX3_teachEachOther_28 : decode cX3_teachEachOther 28 = .ok (.getfield 15, 3) := by decide +kernel
theorem dX3_teachEachOther_31 : decode cX3_teachEachOther 31 = .ok (.iload_n 3, 1) := by decide +kernel
theorem dX3_teachEachOther_32 : decode cX3_teachEachOther 32 = .ok (.iload_n 2, 1) := by decide +kernel
theorem dX3_teachEachOther_33 : decode cX3_teachEachOther 33 = .ok (.iastore, 1) := by decide +kernel
theorem dX3_teachEachOther_34 : decode cX3_teachEachOther 34 = .ok (.iinc 3 1, 3) := by decide +kernel
theorem dX3_teachEachOther_37 : decode cX3_teachEachOther 37 = .ok (.goto (-29), 3) := by decide +kernel
theorem dX3_teachEachOther_40 : decode cX3_teachEachOther 40 = .ok (.return_, 1) := by decide +kernel
set_option maxRecDepth 20000 in
theorem ggX3_thaw_X10_isIn : GoodIn wsX3_thaw wsX10_isIn := goodIn_r _ [7] (by decide +kernel) (by decide +kernel)
set_option maxRecDepth 20000 in
theorem gX3_thaw_X10_isIn_n74 : GoodIn wsX3_thaw (wsX10_isIn) := ggX3_thaw_X10_isIn
set_option maxRecDepth 20000 in
theorem ggX3_thaw_X1_harmOnce : GoodIn wsX3_thaw wsX1_harmOnce := goodIn_r _ [14, 15, 9, 16, 17, 18, 19] (by decide +kernel) (by decide +kernel)
set_option maxRecDepth 20000 in
theorem gX3_thaw_X1_harmOnce_u78X1 : GoodIn wsX3_thaw (va_wsO RX3 78 RX1 "AwakeTurns$Sleeper" ⟨"AwakeTurns$Sleeper", "harmOnce", "()I"⟩ yX1_harmOnce wsX1_harmOnce) := goodIn_app (goodIn_of _ (by decide +kernel)) ggX3_thaw_X1_harmOnce
set_option maxRecDepth 20000 in
theorem ggX3_thaw_X5_harmOnce : GoodIn wsX3_thaw wsX5_harmOnce := goodIn_r _ [23, 24, 25, 26, 12, 13, 14, 15, 9, 16, 17, 18, 19] (by decide +kernel) (by decide +kernel)
set_option maxRecDepth 20000 in
theorem gX3_thaw_X5_harmOnce_u78X5 : GoodIn wsX3_thaw (va_wsO RX3 78 RX5 "AwakeTurns$Sleeper" ⟨"AwakeTurns$Sleeper", "harmOnce", "()I"⟩ yX5_harmOnce wsX5_harmOnce) := goodIn_app (goodIn_of _ (by decide +kernel)) ggX3_thaw_X5_harmOnce
set_option maxRecDepth 20000 in
theorem ggX3_thaw_X8_harmOnce : GoodIn wsX3_thaw wsX8_harmOnce := goodIn_r _ [19] (by decide +kernel) (by decide +kernel)
set_option maxRecDepth 20000 in
theorem gX3_thaw_X8_harmOnce : GoodIn wsX3_thaw (wsV RX3 78 RX8 yX8_harmOnce wsX8_harmOnce) := goodIn_app (goodIn_of _ (by decide +kernel)) ggX3_thaw_X8_harmOnce
theorem dX3_thaw_0 : decode cX3_thaw 0 = .ok (.iconst 0, 1) := by decide +kernel
theorem dX3_thaw_1 : decode cX3_thaw 1 = .ok (.istore_n 2, 1) := by decide +kernel
theorem dX3_thaw_2 : decode cX3_thaw 2 = .ok (.iload_n 2, 1) := by decide +kernel
theorem dX3_thaw_3 : decode cX3_thaw 3 = .ok (.aload_n 0, 1) := by decide +kernel
theorem dX3_thaw_4 : decode cX3_thaw 4 = .ok (.getfield 25, 3) := by decide +kernel
theorem dX3_thaw_7 : decode cX3_thaw 7 = .ok (.getfield 45, 3) := by decide +kernel
theorem dX3_thaw_10 : decode cX3_thaw 10 = .ok (.if_icmp .ge 38, 3) := by decide +kernel
theorem dX3_thaw_13 : decode cX3_thaw 13 = .ok (.iload_n 1, 1) := by decide +kernel
theorem dX3_thaw_14 : decode cX3_thaw 14 = .ok (.iload_n 2, 1) := by decide +kernel
theorem dX3_thaw_15 : decode cX3_thaw 15 = .ok (.invokestatic 74, 3) := by decide +kernel
theorem dX3_thaw_18 : decode cX3_thaw 18 = .ok (.ifCond .eq 24, 3) := by decide +kernel
theorem dX3_thaw_21 : decode cX3_thaw 21 = .ok (.aload_n 0, 1) := by decide +kernel
theorem dX3_thaw_22 : decode cX3_thaw 22 = .ok (.getfield 9, 3) := by decide +kernel
theorem dX3_thaw_25 : decode cX3_thaw 25 = .ok (.iload_n 2, 1) := by decide +kernel
theorem dX3_thaw_26 : decode cX3_thaw 26 = .ok (.dup2, 1) := by decide +kernel
theorem dX3_thaw_27 : decode cX3_thaw 27 = .ok (.iaload, 1) := by decide +kernel
theorem dX3_thaw_28 : decode cX3_thaw 28 = .ok (.aload_n 0, 1) := by decide +kernel
theorem dX3_thaw_29 : decode cX3_thaw 29 = .ok (.getfield 25, 3) := by decide +kernel
theorem dX3_thaw_32 : decode cX3_thaw 32 = .ok (.getfield 48, 3) := by decide +kernel
theorem dX3_thaw_35 : decode cX3_thaw 35 = .ok (.iload_n 2, 1) := by decide +kernel
theorem dX3_thaw_36 : decode cX3_thaw 36 = .ok (.aaload, 1) := by decide +kernel
theorem dX3_thaw_37 : decode cX3_thaw 37 = .ok (.invokevirtual 78, 3) := by decide +kernel
theorem dX3_thaw_40 : decode cX3_thaw 40 = .ok (.iadd, 1) := by decide +kernel
theorem dX3_thaw_41 : decode cX3_thaw 41 = .ok (.iastore, 1) := by decide +kernel
theorem dX3_thaw_42 : decode cX3_thaw 42 = .ok (.iinc 2 1, 3) := by decide +kernel
theorem dX3_thaw_45 : decode cX3_thaw 45 = .ok (.goto (-43), 3) := by decide +kernel
theorem dX3_thaw_48 : decode cX3_thaw 48 = .ok (.return_, 1) := by decide +kernel
set_option maxRecDepth 20000 in
theorem ggX3_knownBy_X10_isIn : GoodIn wsX3_knownBy wsX10_isIn := goodIn_r _ [6] (by decide +kernel) (by decide +kernel)
set_option maxRecDepth 20000 in
theorem gX3_knownBy_X10_isIn_n74 : GoodIn wsX3_knownBy (wsX10_isIn) := ggX3_knownBy_X10_isIn
theorem dX3_knownBy_0 : decode cX3_knownBy 0 = .ok (.iconst 0, 1) := by decide +kernel
theorem dX3_knownBy_1 : decode cX3_knownBy 1 = .ok (.istore_n 2, 1) := by decide +kernel
theorem dX3_knownBy_2 : decode cX3_knownBy 2 = .ok (.iconst 0, 1) := by decide +kernel
theorem dX3_knownBy_3 : decode cX3_knownBy 3 = .ok (.istore_n 3, 1) := by decide +kernel
theorem dX3_knownBy_4 : decode cX3_knownBy 4 = .ok (.iload_n 3, 1) := by decide +kernel
theorem dX3_knownBy_5 : decode cX3_knownBy 5 = .ok (.aload_n 0, 1) := by decide +kernel
theorem dX3_knownBy_6 : decode cX3_knownBy 6 = .ok (.getfield 25, 3) := by decide +kernel
theorem dX3_knownBy_9 : decode cX3_knownBy 9 = .ok (.getfield 45, 3) := by decide +kernel
theorem dX3_knownBy_12 : decode cX3_knownBy 12 = .ok (.if_icmp .ge 26, 3) := by decide +kernel
theorem dX3_knownBy_15 : decode cX3_knownBy 15 = .ok (.iload_n 1, 1) := by decide +kernel
theorem dX3_knownBy_16 : decode cX3_knownBy 16 = .ok (.iload_n 3, 1) := by decide +kernel
theorem dX3_knownBy_17 : decode cX3_knownBy 17 = .ok (.invokestatic 74, 3) := by decide +kernel
theorem dX3_knownBy_20 : decode cX3_knownBy 20 = .ok (.ifCond .eq 12, 3) := by decide +kernel
theorem dX3_knownBy_23 : decode cX3_knownBy 23 = .ok (.iload_n 2, 1) := by decide +kernel
theorem dX3_knownBy_24 : decode cX3_knownBy 24 = .ok (.aload_n 0, 1) := by decide +kernel
theorem dX3_knownBy_25 : decode cX3_knownBy 25 = .ok (.getfield 15, 3) := by decide +kernel
theorem dX3_knownBy_28 : decode cX3_knownBy 28 = .ok (.iload_n 3, 1) := by decide +kernel
theorem dX3_knownBy_29 : decode cX3_knownBy 29 = .ok (.iaload, 1) := by decide +kernel
theorem dX3_knownBy_30 : decode cX3_knownBy 30 = .ok (.ior, 1) := by decide +kernel
theorem dX3_knownBy_31 : decode cX3_knownBy 31 = .ok (.istore_n 2, 1) := by decide +kernel
theorem dX3_knownBy_32 : decode cX3_knownBy 32 = .ok (.iinc 3 1, 3) := by decide +kernel
theorem dX3_knownBy_35 : decode cX3_knownBy 35 = .ok (.goto (-31), 3) := by decide +kernel
theorem dX3_knownBy_38 : decode cX3_knownBy 38 = .ok (.iload_n 2, 1) := by decide +kernel
theorem dX3_knownBy_39 : decode cX3_knownBy 39 = .ok (.ireturn, 1) := by decide +kernel
theorem dX4_init_0 : decode cX4_init 0 = .ok (.aload_n 0, 1) := by decide +kernel
theorem dX4_init_1 : decode cX4_init 1 = .ok (.invokespecial 3, 3) := by decide +kernel
theorem dX4_init_4 : decode cX4_init 4 = .ok (.aload_n 0, 1) := by decide +kernel
theorem dX4_init_5 : decode cX4_init 5 = .ok (.bipush 8, 2) := by decide +kernel
theorem dX4_init_7 : decode cX4_init 7 = .ok (.newarray .int, 2) := by decide +kernel
theorem dX4_init_9 : decode cX4_init 9 = .ok (.putfield 9, 3) := by decide +kernel
theorem dX4_init_12 : decode cX4_init 12 = .ok (.aload_n 0, 1) := by decide +kernel
theorem dX4_init_13 : decode cX4_init 13 = .ok (.bipush 8, 2) := by decide +kernel
theorem dX4_init_15 : decode cX4_init 15 = .ok (.newarray .int, 2) := by decide +kernel
theorem dX4_init_17 : decode cX4_init 17 = .ok (.putfield 15, 3) := by decide +kernel
theorem dX4_init_20 : decode cX4_init 20 = .ok (.aload_n 0, 1) := by decide +kernel
theorem dX4_init_21 : decode cX4_init 21 = .ok (.bipush 8, 2) := by decide +kernel
theorem dX4_init_23 : decode cX4_init 23 = .ok (.newarray .int, 2) := by decide +kernel
theorem dX4_init_25 : decode cX4_init 25 = .ok (.putfield 18, 3) := by decide +kernel
theorem dX4_init_28 : decode cX4_init 28 = .ok (.aload_n 0, 1) := by decide +kernel
theorem dX4_init_29 : decode cX4_init 29 = .ok (.bipush 8, 2) := by decide +kernel
theorem dX4_init_31 : decode cX4_init 31 = .ok (.newarray .int, 2) := by decide +kernel
theorem dX4_init_33 : decode cX4_init 33 = .ok (.putfield 21, 3) := by decide +kernel
theorem dX4_init_36 : decode cX4_init 36 = .ok (.aload_n 0, 1) := by decide +kernel
theorem dX4_init_37 : decode cX4_init 37 = .ok (.bipush 8, 2) := by decide +kernel
theorem dX4_init_39 : decode cX4_init 39 = .ok (.newarray .int, 2) := by decide +kernel
theorem dX4_init_41 : decode cX4_init 41 = .ok (.putfield 24, 3) := by decide +kernel
theorem dX4_init_44 : decode cX4_init 44 = .ok (.aload_n 0, 1) := by decide +kernel
theorem dX4_init_45 : decode cX4_init 45 = .ok (.bipush 12, 2) := by decide +kernel
theorem dX4_init_47 : decode cX4_init 47 = .ok (.newarray .int, 2) := by decide +kernel
theorem dX4_init_49 : decode cX4_init 49 = .ok (.putfield 27, 3) := by decide +kernel
theorem dX4_init_52 : decode cX4_init 52 = .ok (.aload_n 0, 1) := by decide +kernel
theorem dX4_init_53 : decode cX4_init 53 = .ok (.iconst 0, 1) := by decide +kernel
theorem dX4_init_54 : decode cX4_init 54 = .ok (.putfield 30, 3) := by decide +kernel
theorem dX4_init_57 : decode cX4_init 57 = .ok (.aload_n 0, 1) := by decide +kernel
theorem dX4_init_58 : decode cX4_init 58 = .ok (.iconst 0, 1) := by decide +kernel
theorem dX4_init_59 : decode cX4_init 59 = .ok (.putfield 34, 3) := by decide +kernel
theorem dX4_init_62 : decode cX4_init 62 = .ok (.return_, 1) := by decide +kernel
theorem dX4_forgetAll_0 : decode cX4_forgetAll 0 = .ok (.aload_n 0, 1) := by decide +kernel
theorem dX4_forgetAll_1 : decode cX4_forgetAll 1 = .ok (.iconst 0, 1) := by decide +kernel
theorem dX4_forgetAll_2 : decode cX4_forgetAll 2 = .ok (.putfield 30, 3) := by decide +kernel
theorem dX4_forgetAll_5 : decode cX4_forgetAll 5 = .ok (.aload_n 0, 1) := by decide +kernel
theorem dX4_forgetAll_6 : decode cX4_forgetAll 6 = .ok (.iconst 0, 1) := by decide +kernel
theorem dX4_forgetAll_7 : decode cX4_forgetAll 7 = .ok (.putfield 34, 3) := by decide +kernel
theorem dX4_forgetAll_10 : decode cX4_forgetAll 10 = .ok (.return_, 1) := by decide +kernel
theorem dX4_addNote_0 : decode cX4_addNote 0 = .ok (.aload_n 0, 1) := by decide +kernel
theorem dX4_addNote_1 : decode cX4_addNote 1 = .ok (.getfield 30, 3) := by decide +kernel
theorem dX4_addNote_4 : decode cX4_addNote 4 = .ok (.bipush 8, 2) := by decide +kernel
theorem dX4_addNote_6 : decode cX4_addNote 6 = .ok (.if_icmp .lt 6, 3) := by decide +kernel
theorem dX4_addNote_9 : decode cX4_addNote 9 = .ok (.bipush (-4), 2) := by decide +kernel
theorem dX4_addNote_11 : decode cX4_addNote 11 = .ok (.ireturn, 1) := by decide +kernel
theorem dX4_addNote_12 : decode cX4_addNote 12 = .ok (.aload_n 0, 1) := by decide +kernel
theorem dX4_addNote_13 : decode cX4_addNote 13 = .ok (.getfield 9, 3) := by decide +kernel
theorem dX4_addNote_16 : decode cX4_addNote 16 = .ok (.aload_n 0, 1) := by decide +kernel
theorem dX4_addNote_17 : decode cX4_addNote 17 = .ok (.getfield 30, 3) := by decide +kernel
theorem dX4_addNote_20 : decode cX4_addNote 20 = .ok (.iload_n 1, 1) := by decide +kernel
theorem dX4_addNote_21 : decode cX4_addNote 21 = .ok (.iastore, 1) := by decide +kernel
theorem dX4_addNote_22 : decode cX4_addNote 22 = .ok (.aload_n 0, 1) := by decide +kernel
theorem dX4_addNote_23 : decode cX4_addNote 23 = .ok (.getfield 15, 3) := by decide +kernel
theorem dX4_addNote_26 : decode cX4_addNote 26 = .ok (.aload_n 0, 1) := by decide +kernel
theorem dX4_addNote_27 : decode cX4_addNote 27 = .ok (.getfield 30, 3) := by decide +kernel
theorem dX4_addNote_30 : decode cX4_addNote 30 = .ok (.iload_n 2, 1) := by decide +kernel
theorem dX4_addNote_31 : decode cX4_addNote 31 = .ok (.iastore, 1) := by decide +kernel
theorem dX4_addNote_32 : decode cX4_addNote 32 = .ok (.aload_n 0, 1) := by decide +kernel
theorem dX4_addNote_33 : decode cX4_addNote 33 = .ok (.dup, 1) := by decide +kernel
theorem dX4_addNote_34 : decode cX4_addNote 34 = .ok (.getfield 30, 3) := by decide +kernel
theorem dX4_addNote_37 : decode cX4_addNote 37 = .ok (.iconst 1, 1) := by decide +kernel
theorem dX4_addNote_38 : decode cX4_addNote 38 = .ok (.iadd, 1) := by decide +kernel
theorem dX4_addNote_39 : decode cX4_addNote 39 = .ok (.putfield 30, 3) := by decide +kernel
theorem dX4_addNote_42 : decode cX4_addNote 42 = .ok (.aload_n 0, 1) := by decide +kernel
theorem dX4_addNote_43 : decode cX4_addNote 43 = .ok (.getfield 30, 3) := by decide +kernel
theorem dX4_addNote_46 : decode cX4_addNote 46 = .ok (.iconst 1, 1) := by decide +kernel
theorem dX4_addNote_47 : decode cX4_addNote 47 = .ok (.isub, 1) := by decide +kernel
theorem dX4_addNote_48 : decode cX4_addNote 48 = .ok (.ireturn, 1) := by decide +kernel
theorem dX4_addReading_0 : decode cX4_addReading 0 = .ok (.aload_n 0, 1) := by decide +kernel
theorem dX4_addReading_1 : decode cX4_addReading 1 = .ok (.getfield 34, 3) := by decide +kernel
theorem dX4_addReading_4 : decode cX4_addReading 4 = .ok (.bipush 8, 2) := by decide +kernel
theorem dX4_addReading_6 : decode cX4_addReading 6 = .ok (.if_icmp .lt 6, 3) := by decide +kernel
theorem dX4_addReading_9 : decode cX4_addReading 9 = .ok (.bipush (-4), 2) := by decide +kernel
theorem dX4_addReading_11 : decode cX4_addReading 11 = .ok (.ireturn, 1) := by decide +kernel
theorem dX4_addReading_12 : decode cX4_addReading 12 = .ok (.aload_n 0, 1) := by decide +kernel
theorem dX4_addReading_13 : decode cX4_addReading 13 = .ok (.getfield 18, 3) := by decide +kernel
theorem dX4_addReading_16 : decode cX4_addReading 16 = .ok (.aload_n 0, 1) := by decide +kernel
theorem dX4_addReading_17 : decode cX4_addReading 17 = .ok (.getfield 34, 3) := by decide +kernel
theorem dX4_addReading_20 : decode cX4_addReading 20 = .ok (.iload_n 1, 1) := by decide +kernel
theorem dX4_addReading_21 : decode cX4_addReading 21 = .ok (.iastore, 1) := by decide +kernel
theorem dX4_addReading_22 : decode cX4_addReading 22 = .ok (.aload_n 0, 1) := by decide +kernel
theorem dX4_addReading_23 : decode cX4_addReading 23 = .ok (.getfield 21, 3) := by decide +kernel
theorem dX4_addReading_26 : decode cX4_addReading 26 = .ok (.aload_n 0, 1) := by decide +kernel
theorem dX4_addReading_27 : decode cX4_addReading 27 = .ok (.getfield 34, 3) := by decide +kernel
theorem dX4_addReading_30 : decode cX4_addReading 30 = .ok (.iload_n 2, 1) := by decide +kernel
theorem dX4_addReading_31 : decode cX4_addReading 31 = .ok (.iastore, 1) := by decide +kernel
theorem dX4_addReading_32 : decode cX4_addReading 32 = .ok (.aload_n 0, 1) := by decide +kernel
theorem dX4_addReading_33 : decode cX4_addReading 33 = .ok (.getfield 24, 3) := by decide +kernel
theorem dX4_addReading_36 : decode cX4_addReading 36 = .ok (.aload_n 0, 1) := by decide +kernel
theorem dX4_addReading_37 : decode cX4_addReading 37 = .ok (.getfield 34, 3) := by decide +kernel
theorem dX4_addReading_40 : decode cX4_addReading 40 = .ok (.iload_n 3, 1) := by decide +kernel
theorem dX4_addReading_41 : decode cX4_addReading 41 = .ok (.ifCond .eq 7, 3) := by decide +kernel
theorem dX4_addReading_44 : decode cX4_addReading 44 = .ok (.iconst 1, 1) := by decide +kernel
theorem dX4_addReading_45 : decode cX4_addReading 45 = .ok (.goto 4, 3) := by decide +kernel
theorem dX4_addReading_48 : decode cX4_addReading 48 = .ok (.iconst 0, 1) := by decide +kernel
theorem dX4_addReading_49 : decode cX4_addReading 49 = .ok (.iastore, 1) := by decide +kernel
theorem dX4_addReading_50 : decode cX4_addReading 50 = .ok (.aload_n 0, 1) := by decide +kernel
theorem dX4_addReading_51 : decode cX4_addReading 51 = .ok (.dup, 1) := by decide +kernel
theorem dX4_addReading_52 : decode cX4_addReading 52 = .ok (.getfield 34, 3) := by decide +kernel
theorem dX4_addReading_55 : decode cX4_addReading 55 = .ok (.iconst 1, 1) := by decide +kernel
theorem dX4_addReading_56 : decode cX4_addReading 56 = .ok (.iadd, 1) := by decide +kernel
theorem dX4_addReading_57 : decode cX4_addReading 57 = .ok (.putfield 34, 3) := by decide +kernel
theorem dX4_addReading_60 : decode cX4_addReading 60 = .ok (.aload_n 0, 1) := by decide +kernel
theorem dX4_addReading_61 : decode cX4_addReading 61 = .ok (.getfield 34, 3) := by decide +kernel
theorem dX4_addReading_64 : decode cX4_addReading 64 = .ok (.iconst 1, 1) := by decide +kernel
theorem dX4_addReading_65 : decode cX4_addReading 65 = .ok (.isub, 1) := by decide +kernel
theorem dX4_addReading_66 : decode cX4_addReading 66 = .ok (.ireturn, 1) := by decide +kernel
set_option maxRecDepth 20000 in
theorem ggX4_spread_X4_readersOf : GoodIn wsX4_spread wsX4_readersOf := goodIn_r _ [6, 7, 8, 9, 10, 11, 12, 13, 14, 15, 16, 17, 18, 19, 20] (by decide +kernel) (by decide +kernel)
set_option maxRecDepth 20000 in
theorem gX4_spread_X4_readersOf : GoodIn wsX4_spread (wsV RX4 37 RX4 yX4_readersOf wsX4_readersOf) := goodIn_app (goodIn_of _ (by decide +kernel)) ggX4_spread_X4_readersOf
theorem dX4_spread_0 : decode cX4_spread 0 = .ok (.iconst 0, 1) := by decide +kernel
theorem dX4_spread_1 : decode cX4_spread 1 = .ok (.istore 4, 2) := by decide +kernel
theorem dX4_spread_3 : decode cX4_spread 3 = .ok (.iconst 0, 1) := by decide +kernel
theorem dX4_spread_4 : decode cX4_spread 4 = .ok (.istore 5, 2) := by decide +kernel
theorem dX4_spread_6 : decode cX4_spread 6 = .ok (.iconst 0, 1) := by decide +kernel
theorem dX4_spread_7 : decode cX4_spread 7 = .ok (.istore 6, 2) := by decide +kernel
theorem dX4_spread_9 : decode cX4_spread 9 = .ok (.iload 6, 2) := by decide +kernel
theorem dX4_spread_11 : decode cX4_spread 11 = .ok (.bipush 12, 2) := by decide +kernel
theorem dX4_spread_13 : decode cX4_spread 13 = .ok (.if_icmp .ge 76, 3) := by decide +kernel
theorem dX4_spread_16 : decode cX4_spread 16 = .ok (.iload 6, 2) := by decide +kernel
theorem dX4_spread_18 : decode cX4_spread 18 = .ok (.iload_n 2, 1) := by decide +kernel
theorem dX4_spread_19 : decode cX4_spread 19 = .ok (.if_icmp .ne 8, 3) := by decide +kernel
theorem dX4_spread_22 : decode cX4_spread 22 = .ok (.iconst 1, 1) := by decide +kernel
theorem dX4_spread_23 : decode cX4_spread 23 = .ok (.iload_n 1, 1) := by decide +kernel
theorem dX4_spread_24 : decode cX4_spread 24 = .ok (.ishl, 1) := by decide +kernel
theorem dX4_spread_25 : decode cX4_spread 25 = .ok (.istore 4, 2) := by decide +kernel
theorem dX4_spread_27 : decode cX4_spread 27 = .ok (.iload 4, 2) := by decide +kernel
theorem dX4_spread_29 : decode cX4_spread 29 = .ok (.aload_n 0, 1) := by decide +kernel
theorem dX4_spread_30 : decode cX4_spread 30 = .ok (.iload 5, 2) := by decide +kernel
theorem dX4_spread_32 : decode cX4_spread 32 = .ok (.invokevirtual 37, 3) := by decide +kernel
theorem dX4_spread_35 : decode cX4_spread 35 = .ok (.aload_n 3, 1) := by decide +kernel
theorem dX4_spread_36 : decode cX4_spread 36 = .ok (.iload 6, 2) := by decide +kernel
theorem dX4_spread_38 : decode cX4_spread 38 = .ok (.iaload, 1) := by decide +kernel
theorem dX4_spread_39 : decode cX4_spread 39 = .ok (.iand, 1) := by decide +kernel
theorem dX4_spread_40 : decode cX4_spread 40 = .ok (.ior, 1) := by decide +kernel
theorem dX4_spread_41 : decode cX4_spread 41 = .ok (.istore 4, 2) := by decide +kernel
theorem dX4_spread_43 : decode cX4_spread 43 = .ok (.iload 4, 2) := by decide +kernel
theorem dX4_spread_45 : decode cX4_spread 45 = .ok (.aload_n 3, 1) := by decide +kernel
theorem dX4_spread_46 : decode cX4_spread 46 = .ok (.iload 6, 2) := by decide +kernel
theorem dX4_spread_48 : decode cX4_spread 48 = .ok (.iaload, 1) := by decide +kernel
theorem dX4_spread_49 : decode cX4_spread 49 = .ok (.iand, 1) := by decide +kernel
theorem dX4_spread_50 : decode cX4_spread 50 = .ok (.ifCond .eq 12, 3) := by decide +kernel
theorem dX4_spread_53 : decode cX4_spread 53 = .ok (.iload 4, 2) := by decide +kernel
theorem dX4_spread_55 : decode cX4_spread 55 = .ok (.aload_n 3, 1) := by decide +kernel
theorem dX4_spread_56 : decode cX4_spread 56 = .ok (.iload 6, 2) := by decide +kernel
theorem dX4_spread_58 : decode cX4_spread 58 = .ok (.iaload, 1) := by decide +kernel
theorem dX4_spread_59 : decode cX4_spread 59 = .ok (.ior, 1) := by decide +kernel
theorem dX4_spread_60 : decode cX4_spread 60 = .ok (.istore 4, 2) := by decide +kernel
theorem dX4_spread_62 : decode cX4_spread 62 = .ok (.iload 5, 2) := by decide +kernel
theorem dX4_spread_64 : decode cX4_spread 64 = .ok (.iload 4, 2) := by decide +kernel
theorem dX4_spread_66 : decode cX4_spread 66 = .ok (.aload_n 3, 1) := by decide +kernel
theorem dX4_spread_67 : decode cX4_spread 67 = .ok (.iload 6, 2) := by decide +kernel
theorem dX4_spread_69 : decode cX4_spread 69 = .ok (.iaload, 1) := by decide +kernel
theorem dX4_spread_70 : decode cX4_spread 70 = .ok (.iand, 1) := by decide +kernel
theorem dX4_spread_71 : decode cX4_spread 71 = .ok (.ior, 1) := by decide +kernel
theorem dX4_spread_72 : decode cX4_spread 72 = .ok (.istore 5, 2) := by decide +kernel
theorem dX4_spread_74 : decode cX4_spread 74 = .ok (.aload_n 0, 1) := by decide +kernel
theorem dX4_spread_75 : decode cX4_spread 75 = .ok (.getfield 27, 3) := by decide +kernel
theorem dX4_spread_78 : decode cX4_spread 78 = .ok (.iload 6, 2) := by decide +kernel
theorem dX4_spread_80 : decode cX4_spread 80 = .ok (.iload 4, 2) := by decide +kernel
theorem dX4_spread_82 : decode cX4_spread 82 = .ok (.iastore, 1) := by decide +kernel
theorem dX4_spread_83 : decode cX4_spread 83 = .ok (.iinc 6 1, 3) := by decide +kernel
theorem dX4_spread_86 : decode cX4_spread 86 = .ok (.goto (-77), 3) := by decide +kernel
theorem dX4_spread_89 : decode cX4_spread 89 = .ok (.return_, 1) := by decide +kernel
set_option maxRecDepth 20000 in
theorem ggX4_readersOf_X10_isIn : GoodIn wsX4_readersOf wsX10_isIn := goodIn_r _ [6] (by decide +kernel) (by decide +kernel)
set_option maxRecDepth 20000 in
theorem gX4_readersOf_X10_isIn_n41 : GoodIn wsX4_readersOf (wsX10_isIn) := ggX4_readersOf_X10_isIn
theorem dX4_readersOf_0 : decode cX4_readersOf 0 = .ok (.iconst 0, 1) := by decide +kernel
theorem dX4_readersOf_1 : decode cX4_readersOf 1 = .ok (.istore_n 2, 1) := by decide +kernel
theorem dX4_readersOf_2 : decode cX4_readersOf 2 = .ok (.iconst 0, 1) := by decide +kernel
theorem dX4_readersOf_3 : decode cX4_readersOf 3 = .ok (.istore_n 3, 1) := by decide +kernel
theorem dX4_readersOf_4 : decode cX4_readersOf 4 = .ok (.iload_n 3, 1) := by decide +kernel
theorem dX4_readersOf_5 : decode cX4_readersOf 5 = .ok (.aload_n 0, 1) := by decide +kernel
theorem dX4_readersOf_6 : decode cX4_readersOf 6 = .ok (.getfield 30, 3) := by decide +kernel
theorem dX4_readersOf_9 : decode cX4_readersOf 9 = .ok (.if_icmp .ge 33, 3) := by decide +kernel
theorem dX4_readersOf_12 : decode cX4_readersOf 12 = .ok (.iload_n 1, 1) := by decide +kernel
theorem dX4_readersOf_13 : decode cX4_readersOf 13 = .ok (.aload_n 0, 1) := by decide +kernel
theorem dX4_readersOf_14 : decode cX4_readersOf 14 = .ok (.getfield 9, 3) := by decide +kernel
theorem dX4_readersOf_17 : decode cX4_readersOf 17 = .ok (.iload_n 3, 1) := by decide +kernel
theorem dX4_readersOf_18 : decode cX4_readersOf 18 = .ok (.iaload, 1) := by decide +kernel
theorem dX4_readersOf_19 : decode cX4_readersOf 19 = .ok (.invokestatic 41, 3) := by decide +kernel
theorem dX4_readersOf_22 : decode cX4_readersOf 22 = .ok (.ifCond .eq 14, 3) := by decide +kernel
theorem dX4_readersOf_25 : decode cX4_readersOf 25 = .ok (.iload_n 2, 1) := by decide +kernel
theorem dX4_readersOf_26 : decode cX4_readersOf 26 = .ok (.iconst 1, 1) := by decide +kernel
theorem dX4_readersOf_27 : decode cX4_readersOf 27 = .ok (.aload_n 0, 1) := by decide +kernel
theorem dX4_readersOf_28 : decode cX4_readersOf 28 = .ok (.getfield 15, 3) := by decide +kernel
theorem dX4_readersOf_31 : decode cX4_readersOf 31 = .ok (.iload_n 3, 1) := by decide +kernel
theorem dX4_readersOf_32 : decode cX4_readersOf 32 = .ok (.iaload, 1) := by decide +kernel
theorem dX4_readersOf_33 : decode cX4_readersOf 33 = .ok (.ishl, 1) := by decide +kernel
theorem dX4_readersOf_34 : decode cX4_readersOf 34 = .ok (.ior, 1) := by decide +kernel
theorem dX4_readersOf_35 : decode cX4_readersOf 35 = .ok (.istore_n 2, 1) := by decide +kernel
theorem dX4_readersOf_36 : decode cX4_readersOf 36 = .ok (.iinc 3 1, 3) := by decide +kernel
theorem dX4_readersOf_39 : decode cX4_readersOf 39 = .ok (.goto (-35), 3) := by decide +kernel
theorem dX4_readersOf_42 : decode cX4_readersOf 42 = .ok (.iload_n 2, 1) := by decide +kernel
theorem dX4_readersOf_43 : decode cX4_readersOf 43 = .ok (.ireturn, 1) := by decide +kernel
set_option maxRecDepth 20000 in
theorem ggX4_firstMonthOf_X10_isIn : GoodIn wsX4_firstMonthOf wsX10_isIn := goodIn_r _ [4] (by decide +kernel) (by decide +kernel)
set_option maxRecDepth 20000 in
theorem gX4_firstMonthOf_X10_isIn_n41 : GoodIn wsX4_firstMonthOf (wsX10_isIn) := ggX4_firstMonthOf_X10_isIn
theorem dX4_firstMonthOf_0 : decode cX4_firstMonthOf 0 = .ok (.iconst 0, 1) := by decide +kernel
theorem dX4_firstMonthOf_1 : decode cX4_firstMonthOf 1 = .ok (.istore_n 2, 1) := by decide +kernel
theorem dX4_firstMonthOf_2 : decode cX4_firstMonthOf 2 = .ok (.iload_n 2, 1) := by decide +kernel
theorem dX4_firstMonthOf_3 : decode cX4_firstMonthOf 3 = .ok (.bipush 12, 2) := by decide +kernel
theorem dX4_firstMonthOf_5 : decode cX4_firstMonthOf 5 = .ok (.if_icmp .ge 24, 3) := by decide +kernel
theorem dX4_firstMonthOf_8 : decode cX4_firstMonthOf 8 = .ok (.aload_n 0, 1) := by decide +kernel
theorem dX4_firstMonthOf_9 : decode cX4_firstMonthOf 9 = .ok (.getfield 27, 3) := by decide +kernel
theorem dX4_firstMonthOf_12 : decode cX4_firstMonthOf 12 = .ok (.iload_n 2, 1) := by decide +kernel
theorem dX4_firstMonthOf_13 : decode cX4_firstMonthOf 13 = .ok (.iaload, 1) := by decide +kernel
theorem dX4_firstMonthOf_14 : decode cX4_firstMonthOf 14 = .ok (.iload_n 1, 1) := by decide +kernel
theorem dX4_firstMonthOf_15 : decode cX4_firstMonthOf 15 = .ok (.invokestatic 41, 3) := by decide +kernel
theorem dX4_firstMonthOf_18 : decode cX4_firstMonthOf 18 = .ok (.ifCond .eq 5, 3) := by decide +kernel
theorem dX4_firstMonthOf_21 : decode cX4_firstMonthOf 21 = .ok (.iload_n 2, 1) := by decide +kernel
theorem dX4_firstMonthOf_22 : decode cX4_firstMonthOf 22 = .ok (.ireturn, 1) := by decide +kernel
theorem dX4_firstMonthOf_23 : decode cX4_firstMonthOf 23 = .ok (.iinc 2 1, 3) := by decide +kernel
theorem dX4_firstMonthOf_26 : decode cX4_firstMonthOf 26 = .ok (.goto (-24), 3) := by decide +kernel
theorem dX4_firstMonthOf_29 : decode cX4_firstMonthOf 29 = .ok (.bipush (-9), 2) := by decide +kernel
theorem dX4_firstMonthOf_31 : decode cX4_firstMonthOf 31 = .ok (.ireturn, 1) := by decide +kernel
theorem dX4_makesReadingsSo_0 : decode cX4_makesReadingsSo 0 = .ok (.iconst 0, 1) := by decide +kernel
theorem dX4_makesReadingsSo_1 : decode cX4_makesReadingsSo 1 = .ok (.istore_n 1, 1) := by decide +kernel
theorem dX4_makesReadingsSo_2 : decode cX4_makesReadingsSo 2 = .ok (.iload_n 1, 1) := by decide +kernel
theorem dX4_makesReadingsSo_3 : decode cX4_makesReadingsSo 3 = .ok (.aload_n 0, 1) := by decide +kernel
theorem dX4_makesReadingsSo_4 : decode cX4_makesReadingsSo 4 = .ok (.getfield 34, 3) := by decide +kernel
theorem dX4_makesReadingsSo_7 : decode cX4_makesReadingsSo 7 = .ok (.if_icmp .ge 42, 3) := by decide +kernel
theorem dX4_makesReadingsSo_10 : decode cX4_makesReadingsSo 10 = .ok (.aload_n 0, 1) := by decide +kernel
theorem dX4_makesReadingsSo_11 : decode cX4_makesReadingsSo 11 = .ok (.getfield 27, 3) := by decide +kernel
theorem dX4_makesReadingsSo_14 : decode cX4_makesReadingsSo 14 = .ok (.aload_n 0, 1) := by decide +kernel
theorem dX4_makesReadingsSo_15 : decode cX4_makesReadingsSo 15 = .ok (.getfield 21, 3) := by decide +kernel
theorem dX4_makesReadingsSo_18 : decode cX4_makesReadingsSo 18 = .ok (.iload_n 1, 1) := by decide +kernel
theorem dX4_makesReadingsSo_19 : decode cX4_makesReadingsSo 19 = .ok (.iaload, 1) := by decide +kernel
theorem dX4_makesReadingsSo_20 : decode cX4_makesReadingsSo 20 = .ok (.iaload, 1) := by decide +kernel
theorem dX4_makesReadingsSo_21 : decode cX4_makesReadingsSo 21 = .ok (.aload_n 0, 1) := by decide +kernel
theorem dX4_makesReadingsSo_22 : decode cX4_makesReadingsSo 22 = .ok (.getfield 18, 3) := by decide +kernel
theorem dX4_makesReadingsSo_25 : decode cX4_makesReadingsSo 25 = .ok (.iload_n 1, 1) := by decide +kernel
theorem dX4_makesReadingsSo_26 : decode cX4_makesReadingsSo 26 = .ok (.iaload, 1) := by decide +kernel
theorem dX4_makesReadingsSo_27 : decode cX4_makesReadingsSo 27 = .ok (.ishr, 1) := by decide +kernel
theorem dX4_makesReadingsSo_28 : decode cX4_makesReadingsSo 28 = .ok (.iconst 1, 1) := by decide +kernel
theorem dX4_makesReadingsSo_29 : decode cX4_makesReadingsSo 29 = .ok (.iand, 1) := by decide +kernel
theorem dX4_makesReadingsSo_30 : decode cX4_makesReadingsSo 30 = .ok (.istore_n 2, 1) := by decide +kernel
theorem dX4_makesReadingsSo_31 : decode cX4_makesReadingsSo 31 = .ok (.iload_n 2, 1) := by decide +kernel
theorem dX4_makesReadingsSo_32 : decode cX4_makesReadingsSo 32 = .ok (.aload_n 0, 1) := by decide +kernel
theorem dX4_makesReadingsSo_33 : decode cX4_makesReadingsSo 33 = .ok (.getfield 24, 3) := by decide +kernel
theorem dX4_makesReadingsSo_36 : decode cX4_makesReadingsSo 36 = .ok (.iload_n 1, 1) := by decide +kernel
theorem dX4_makesReadingsSo_37 : decode cX4_makesReadingsSo 37 = .ok (.iaload, 1) := by decide +kernel
theorem dX4_makesReadingsSo_38 : decode cX4_makesReadingsSo 38 = .ok (.if_icmp .eq 5, 3) := by decide +kernel
theorem dX4_makesReadingsSo_41 : decode cX4_makesReadingsSo 41 = .ok (.iconst 0, 1) := by decide +kernel
theorem dX4_makesReadingsSo_42 : decode cX4_makesReadingsSo 42 = .ok (.ireturn, 1) := by decide +kernel
theorem dX4_makesReadingsSo_43 : decode cX4_makesReadingsSo 43 = .ok (.iinc 1 1, 3) := by decide +kernel
theorem dX4_makesReadingsSo_46 : decode cX4_makesReadingsSo 46 = .ok (.goto (-44), 3) := by decide +kernel
theorem dX4_makesReadingsSo_49 : decode cX4_makesReadingsSo 49 = .ok (.iconst 1, 1) := by decide +kernel
theorem dX4_makesReadingsSo_50 : decode cX4_makesReadingsSo 50 = .ok (.ireturn, 1) := by decide +kernel
set_option maxRecDepth 20000 in
theorem ggX5_init_X1_init : GoodIn wsX5_init wsX1_init := goodIn_r _ [4, 5, 6, 7, 8, 9, 10, 11, 12, 13, 14, 15, 16, 17, 18, 19, 20, 21, 22, 23] (by decide +kernel) (by decide +kernel)
set_option maxRecDepth 20000 in
theorem gX5_init_X1_init : GoodIn wsX5_init (wsX1_init) := ggX5_init_X1_init
theorem dX5_init_0 : decode cX5_init 0 = .ok (.aload_n 0, 1) := by decide +kernel
theorem dX5_init_1 : decode cX5_init 1 = .ok (.iload_n 1, 1) := by decide +kernel
theorem dX5_init_2 : decode cX5_init 2 = .ok (.iload_n 2, 1) := by decide +kernel
theorem dX5_init_3 : decode cX5_init 3 = .ok (.iload_n 3, 1) := by decide +kernel
theorem dX5_init_4 : decode cX5_init 4 = .ok (.invokespecial 1, 3) := by decide +kernel
theorem dX5_init_7 : decode cX5_init 7 = .ok (.return_, 1) := by decide +kernel
theorem dX5_kindNumber_0 : decode cX5_kindNumber 0 = .ok (.iconst 2, 1) := by decide +kernel
theorem dX5_kindNumber_1 : decode cX5_kindNumber 1 = .ok (.ireturn, 1) := by decide +kernel
set_option maxRecDepth 20000 in
theorem ggX5_harmOnce_X1_harmOnce : GoodIn wsX5_harmOnce wsX1_harmOnce := goodIn_r _ [6, 7, 8, 9, 10, 11, 12] (by decide +kernel) (by decide +kernel)
set_option maxRecDepth 20000 in
theorem gX5_harmOnce_X1_harmOnce_s7 : GoodIn wsX5_harmOnce (va_wsSU RX5 7 yX1_harmOnce wsX1_harmOnce) := goodIn_app (goodIn_of _ (by decide +kernel)) ggX5_harmOnce_X1_harmOnce
theorem dX5_harmOnce_0 : decode cX5_harmOnce 0 = .ok (.iconst 2, 1) := by decide +kernel
theorem dX5_harmOnce_1 : decode cX5_harmOnce 1 = .ok (.aload_n 0, 1) := by decide +kernel
theorem dX5_harmOnce_2 : decode cX5_harmOnce 2 = .ok (.invokespecial 7, 3) := by decide +kernel
theorem dX5_harmOnce_5 : decode cX5_harmOnce 5 = .ok (.imul, 1) := by decide +kernel
theorem dX5_harmOnce_6 : decode cX5_harmOnce 6 = .ok (.ireturn, 1) := by decide +kernel
set_option maxRecDepth 20000 in
theorem ggX5_telling_X2_leave : GoodIn wsX5_telling wsX2_leave := goodIn_r _ [5, 6, 33] (by decide +kernel) (by decide +kernel)
set_option maxRecDepth 20000 in
theorem gX5_telling_X2_leave : GoodIn wsX5_telling (wsV RX5 11 RX2 yX2_leave wsX2_leave) := goodIn_app (goodIn_of _ (by decide +kernel)) ggX5_telling_X2_leave
set_option maxRecDepth 20000 in
theorem ggX5_telling_X1_telling : GoodIn wsX5_telling wsX1_telling := goodIn_r _ [12, 13, 2, 3, 4, 5, 6, 14, 15, 16, 17, 18, 19, 20, 21, 22, 23, 24, 25, 26, 27, 28, 29, 33, 34, 35, 36, 37, 38, 39, 40, 41, 42] (by decide +kernel) (by decide +kernel)
set_option maxRecDepth 20000 in
theorem gX5_telling_X1_telling_s17 : GoodIn wsX5_telling (va_wsSU RX5 17 yX1_telling wsX1_telling) := goodIn_app (goodIn_of _ (by decide +kernel)) ggX5_telling_X1_telling
set_option maxRecDepth 20000 in
theorem ggX5_telling_X8_plainTelling : GoodIn wsX5_telling wsX8_plainTelling := goodIn_r _ [24, 25, 26, 2, 3, 4, 5, 6, 34, 35, 36, 37, 38, 39, 40, 41, 42, 33] (by decide +kernel) (by decide +kernel)
set_option maxRecDepth 20000 in
theorem gX5_telling_X8_plainTelling_u21X5 : GoodIn wsX5_telling (va_wsU RX5 21 RX5 "AwakeTurns$Sleeper" ⟨"AwakeTurns$Old", "plainTelling", "(LAwakeTurns$Marks;)I"⟩ yX8_plainTelling wsX8_plainTelling) := goodIn_app (goodIn_of _ (by decide +kernel)) ggX5_telling_X8_plainTelling
theorem dX5_telling_0 : decode cX5_telling 0 = .ok (.aload_n 1, 1) := by decide +kernel
theorem dX5_telling_1 : decode cX5_telling 1 = .ok (.iconst 3, 1) := by decide +kernel
theorem dX5_telling_2 : decode cX5_telling 2 = .ok (.invokevirtual 11, 3) := by decide +kernel
theorem dX5_telling_5 : decode cX5_telling 5 = .ok (.aload_n 0, 1) := by decide +kernel
theorem dX5_telling_6 : decode cX5_telling 6 = .ok (.aload_n 1, 1) := by decide +kernel
theorem dX5_telling_7 : decode cX5_telling 7 = .ok (.invokespecial 17, 3) := by decide +kernel
theorem dX5_telling_10 : decode cX5_telling 10 = .ok (.istore_n 2, 1) := by decide +kernel
theorem dX5_telling_11 : decode cX5_telling 11 = .ok (.iload_n 2, 1) := by decide +kernel
theorem dX5_telling_12 : decode cX5_telling 12 = .ok (.aload_n 0, 1) := by decide +kernel
theorem dX5_telling_13 : decode cX5_telling 13 = .ok (.aload_n 1, 1) := by decide +kernel
theorem dX5_telling_14 : decode cX5_telling 14 = .ok (.invokevirtual 21, 3) := by decide +kernel
theorem dX5_telling_17 : decode cX5_telling 17 = .ok (.iadd, 1) := by decide +kernel
theorem dX5_telling_18 : decode cX5_telling 18 = .ok (.ireturn, 1) := by decide +kernel
set_option maxRecDepth 20000 in
theorem ggX5_greeting_X2_leave : GoodIn wsX5_greeting wsX2_leave := goodIn_r _ [5, 6, 7] (by decide +kernel) (by decide +kernel)
set_option maxRecDepth 20000 in
theorem gX5_greeting_X2_leave : GoodIn wsX5_greeting (wsV RX5 11 RX2 yX2_leave wsX2_leave) := goodIn_app (goodIn_of _ (by decide +kernel)) ggX5_greeting_X2_leave
theorem dX5_greeting_0 : decode cX5_greeting 0 = .ok (.aload_n 1, 1) := by decide +kernel
theorem dX5_greeting_1 : decode cX5_greeting 1 = .ok (.iconst 5, 1) := by decide +kernel
theorem dX5_greeting_2 : decode cX5_greeting 2 = .ok (.invokevirtual 11, 3) := by decide +kernel
theorem dX5_greeting_5 : decode cX5_greeting 5 = .ok (.bipush 60, 2) := by decide +kernel
theorem dX5_greeting_7 : decode cX5_greeting 7 = .ok (.ireturn, 1) := by decide +kernel
theorem dX6_init_0 : decode cX6_init 0 = .ok (.aload_n 0, 1) := by decide +kernel
theorem dX6_init_1 : decode cX6_init 1 = .ok (.invokespecial 3, 3) := by decide +kernel
theorem dX6_init_4 : decode cX6_init 4 = .ok (.aload_n 0, 1) := by decide +kernel
theorem dX6_init_5 : decode cX6_init 5 = .ok (.bipush 13, 2) := by decide +kernel
theorem dX6_init_7 : decode cX6_init 7 = .ok (.bipush 64, 2) := by decide +kernel
theorem dX6_init_9 : decode cX6_init 9 = .ok (.multianewarray 9 2, 4) := by decide +kernel
theorem dX6_init_13 : decode cX6_init 13 = .ok (.putfield 11, 3) := by decide +kernel
theorem dX6_init_16 : decode cX6_init 16 = .ok (.aload_n 0, 1) := by decide +kernel
theorem dX6_init_17 : decode cX6_init 17 = .ok (.aload_n 1, 1) := by decide +kernel
theorem dX6_init_18 : decode cX6_init 18 = .ok (.putfield 16, 3) := by decide +kernel
theorem dX6_init_21 : decode cX6_init 21 = .ok (.return_, 1) := by decide +kernel
set_option maxRecDepth 20000 in
theorem ggX6_reckon_X0_setCount : GoodIn wsX6_reckon wsX0_setCount := goodIn_r _ [8, 9, 36, 37, 38, 39, 40, 41, 42] (by decide +kernel) (by decide +kernel)
set_option maxRecDepth 20000 in
theorem gX6_reckon_X0_setCount : GoodIn wsX6_reckon (wsV RX6 20 RX0 yX0_setCount wsX0_setCount) := goodIn_app (goodIn_of _ (by decide +kernel)) ggX6_reckon_X0_setCount
set_option maxRecDepth 20000 in
theorem ggX6_reckon_X6_restWith : GoodIn wsX6_reckon wsX6_restWith := goodIn_r _ [14, 1, 15, 2, 16, 17, 18, 19, 7, 20, 21, 34, 35, 36, 37, 38, 39, 40, 41, 42] (by decide +kernel) (by decide +kernel)
set_option maxRecDepth 20000 in
theorem gX6_reckon_X6_restWith : GoodIn wsX6_reckon (wsV RX6 26 RX6 yX6_restWith wsX6_restWith) := goodIn_app (goodIn_of _ (by decide +kernel)) ggX6_reckon_X6_restWith
set_option maxRecDepth 20000 in
theorem ggX6_reckon_X6_choose : GoodIn wsX6_reckon wsX6_choose := goodIn_r _ [25, 1, 26, 27, 28, 29, 30, 4, 5, 6, 7, 8, 9, 31, 32, 33, 34, 35, 36, 37, 38, 39, 40, 41, 42] (by decide +kernel) (by decide +kernel)
set_option maxRecDepth 20000 in
theorem gX6_reckon_X6_choose : GoodIn wsX6_reckon (wsV RX6 34 RX6 yX6_choose wsX6_choose) := goodIn_app (goodIn_of _ (by decide +kernel)) ggX6_reckon_X6_choose
theorem dX6_reckon_0 : decode cX6_reckon 0 = .ok (.bipush 11, 2) := by decide +kernel
theorem dX6_reckon_2 : decode cX6_reckon 2 = .ok (.istore_n 1, 1) := by decide +kernel
theorem dX6_reckon_3 : decode cX6_reckon 3 = .ok (.iload_n 1, 1) := by decide +kernel
theorem dX6_reckon_4 : decode cX6_reckon 4 = .ok (.ifCond .lt 72, 3) := by decide +kernel
theorem dX6_reckon_7 : decode cX6_reckon 7 = .ok (.iconst 0, 1) := by decide +kernel
theorem dX6_reckon_8 : decode cX6_reckon 8 = .ok (.istore_n 2, 1) := by decide +kernel
theorem dX6_reckon_9 : decode cX6_reckon 9 = .ok (.iload_n 2, 1) := by decide +kernel
theorem dX6_reckon_10 : decode cX6_reckon 10 = .ok (.aload_n 0, 1) := by decide +kernel
theorem dX6_reckon_11 : decode cX6_reckon 11 = .ok (.getfield 16, 3) := by decide +kernel
theorem dX6_reckon_14 : decode cX6_reckon 14 = .ok (.invokevirtual 20, 3) := by decide +kernel
theorem dX6_reckon_17 : decode cX6_reckon 17 = .ok (.if_icmp .ge 23, 3) := by decide +kernel
theorem dX6_reckon_20 : decode cX6_reckon 20 = .ok (.aload_n 0, 1) := by decide +kernel
theorem dX6_reckon_21 : decode cX6_reckon 21 = .ok (.getfield 11, 3) := by decide +kernel
theorem dX6_reckon_24 : decode cX6_reckon 24 = .ok (.iload_n 1, 1) := by decide +kernel
theorem dX6_reckon_25 : decode cX6_reckon 25 = .ok (.aaload, 1) := by decide +kernel
theorem dX6_reckon_26 : decode cX6_reckon 26 = .ok (.iload_n 2, 1) := by decide +kernel
theorem dX6_reckon_27 : decode cX6_reckon 27 = .ok (.aload_n 0, 1) := by decide +kernel
theorem dX6_reckon_28 : decode cX6_reckon 28 = .ok (.iload_n 2, 1) := by decide +kernel
theorem dX6_reckon_29 : decode cX6_reckon 29 = .ok (.iload_n 1, 1) := by decide +kernel
theorem dX6_reckon_30 : decode cX6_reckon 30 = .ok (.invokevirtual 26, 3) := by decide +kernel
theorem dX6_reckon_33 : decode cX6_reckon 33 = .ok (.iastore, 1) := by decide +kernel
theorem dX6_reckon_34 : decode cX6_reckon 34 = .ok (.iinc 2 1, 3) := by decide +kernel
theorem dX6_reckon_37 : decode cX6_reckon 37 = .ok (.goto (-28), 3) := by decide +kernel
theorem dX6_reckon_40 : decode cX6_reckon 40 = .ok (.iconst 0, 1) := by decide +kernel
theorem dX6_reckon_41 : decode cX6_reckon 41 = .ok (.istore_n 2, 1) := by decide +kernel
theorem dX6_reckon_42 : decode cX6_reckon 42 = .ok (.iload_n 2, 1) := by decide +kernel
theorem dX6_reckon_43 : decode cX6_reckon 43 = .ok (.aload_n 0, 1) := by decide +kernel
theorem dX6_reckon_44 : decode cX6_reckon 44 = .ok (.getfield 16, 3) := by decide +kernel
theorem dX6_reckon_47 : decode cX6_reckon 47 = .ok (.getfield 30, 3) := by decide +kernel
theorem dX6_reckon_50 : decode cX6_reckon 50 = .ok (.if_icmp .ge 20, 3) := by decide +kernel
theorem dX6_reckon_53 : decode cX6_reckon 53 = .ok (.aload_n 0, 1) := by decide +kernel
theorem dX6_reckon_54 : decode cX6_reckon 54 = .ok (.aload_n 0, 1) := by decide +kernel
theorem dX6_reckon_55 : decode cX6_reckon 55 = .ok (.getfield 11, 3) := by decide +kernel
theorem dX6_reckon_58 : decode cX6_reckon 58 = .ok (.iload_n 1, 1) := by decide +kernel
theorem dX6_reckon_59 : decode cX6_reckon 59 = .ok (.aaload, 1) := by decide +kernel
theorem dX6_reckon_60 : decode cX6_reckon 60 = .ok (.iload_n 2, 1) := by decide +kernel
theorem dX6_reckon_61 : decode cX6_reckon 61 = .ok (.invokevirtual 34, 3) := by decide +kernel
theorem dX6_reckon_64 : decode cX6_reckon 64 = .ok (.iinc 2 1, 3) := by decide +kernel
theorem dX6_reckon_67 : decode cX6_reckon 67 = .ok (.goto (-25), 3) := by decide +kernel
theorem dX6_reckon_70 : decode cX6_reckon 70 = .ok (.iinc 1 (-1), 3) := by decide +kernel
theorem dX6_reckon_73 : decode cX6_reckon 73 = .ok (.goto (-70), 3) := by decide +kernel
theorem dX6_reckon_76 : decode cX6_reckon 76 = .ok (.return_, 1) := by decide +kernel
theorem dX6_leastHarm_0 : decode cX6_leastHarm 0 = .ok (.aload_n 0, 1) := by decide +kernel
theorem dX6_leastHarm_1 : decode cX6_leastHarm 1 = .ok (.getfield 11, 3) := by decide +kernel
theorem dX6_leastHarm_4 : decode cX6_leastHarm 4 = .ok (.iconst 0, 1) := by decide +kernel
theorem dX6_leastHarm_5 : decode cX6_leastHarm 5 = .ok (.aaload, 1) := by decide +kernel
theorem dX6_leastHarm_6 : decode cX6_leastHarm 6 = .ok (.iconst 0, 1) := by decide +kernel
theorem dX6_leastHarm_7 : decode cX6_leastHarm 7 = .ok (.iaload, 1) := by decide +kernel
theorem dX6_leastHarm_8 : decode cX6_leastHarm 8 = .ok (.ldc 38, 2) := by decide +kernel
theorem dX6_leastHarm_10 : decode cX6_leastHarm 10 = .ok (.if_icmp .lt 8, 3) := by decide +kernel
theorem dX6_leastHarm_13 : decode cX6_leastHarm 13 = .ok (.bipush (-9), 2) := by decide +kernel
theorem dX6_leastHarm_15 : decode cX6_leastHarm 15 = .ok (.goto 11, 3) := by decide +kernel
theorem dX6_leastHarm_18 : decode cX6_leastHarm 18 = .ok (.aload_n 0, 1) := by decide +kernel
theorem dX6_leastHarm_19 : decode cX6_leastHarm 19 = .ok (.getfield 11, 3) := by decide +kernel
theorem dX6_leastHarm_22 : decode cX6_leastHarm 22 = .ok (.iconst 0, 1) := by decide +kernel
theorem dX6_leastHarm_23 : decode cX6_leastHarm 23 = .ok (.aaload, 1) := by decide +kernel
theorem dX6_leastHarm_24 : decode cX6_leastHarm 24 = .ok (.iconst 0, 1) := by decide +kernel
theorem dX6_leastHarm_25 : decode cX6_leastHarm 25 = .ok (.iaload, 1) := by decide +kernel
theorem dX6_leastHarm_26 : decode cX6_leastHarm 26 = .ok (.ireturn, 1) := by decide +kernel
set_option maxRecDepth 20000 in
theorem ggX6_whoIsUp_X6_firstBest : GoodIn wsX6_whoIsUp wsX6_firstBest := goodIn_r _ [5, 6, 7, 8, 9, 10, 11, 12, 13, 14, 15, 16, 17, 4, 18, 19, 20, 21, 22, 23, 24, 25, 26, 27, 28, 29, 30, 31, 32, 33, 34] (by decide +kernel) (by decide +kernel)
set_option maxRecDepth 20000 in
theorem gX6_whoIsUp_X6_firstBest : GoodIn wsX6_whoIsUp (wsV RX6 39 RX6 yX6_firstBest wsX6_firstBest) := goodIn_app (goodIn_of _ (by decide +kernel)) ggX6_whoIsUp_X6_firstBest
theorem dX6_whoIsUp_0 : decode cX6_whoIsUp 0 = .ok (.iconst 0, 1) := by decide +kernel
theorem dX6_whoIsUp_1 : decode cX6_whoIsUp 1 = .ok (.istore_n 2, 1) := by decide +kernel
theorem dX6_whoIsUp_2 : decode cX6_whoIsUp 2 = .ok (.iconst 0, 1) := by decide +kernel
theorem dX6_whoIsUp_3 : decode cX6_whoIsUp 3 = .ok (.istore_n 3, 1) := by decide +kernel
theorem dX6_whoIsUp_4 : decode cX6_whoIsUp 4 = .ok (.iload_n 3, 1) := by decide +kernel
theorem dX6_whoIsUp_5 : decode cX6_whoIsUp 5 = .ok (.iload_n 1, 1) := by decide +kernel
theorem dX6_whoIsUp_6 : decode cX6_whoIsUp 6 = .ok (.if_icmp .gt 16, 3) := by decide +kernel
theorem dX6_whoIsUp_9 : decode cX6_whoIsUp 9 = .ok (.aload_n 0, 1) := by decide +kernel
theorem dX6_whoIsUp_10 : decode cX6_whoIsUp 10 = .ok (.iload_n 3, 1) := by decide +kernel
theorem dX6_whoIsUp_11 : decode cX6_whoIsUp 11 = .ok (.iload_n 2, 1) := by decide +kernel
theorem dX6_whoIsUp_12 : decode cX6_whoIsUp 12 = .ok (.invokevirtual 39, 3) := by decide +kernel
theorem dX6_whoIsUp_15 : decode cX6_whoIsUp 15 = .ok (.istore_n 2, 1) := by decide +kernel
theorem dX6_whoIsUp_16 : decode cX6_whoIsUp 16 = .ok (.iinc 3 1, 3) := by decide +kernel
theorem dX6_whoIsUp_19 : decode cX6_whoIsUp 19 = .ok (.goto (-15), 3) := by decide +kernel
theorem dX6_whoIsUp_22 : decode cX6_whoIsUp 22 = .ok (.iload_n 2, 1) := by decide +kernel
theorem dX6_whoIsUp_23 : decode cX6_whoIsUp 23 = .ok (.ireturn, 1) := by decide +kernel
set_option maxRecDepth 20000 in
theorem ggX6_restWith_X0_meets : GoodIn wsX6_restWith wsX0_meets := goodIn_r _ [9, 10, 13, 14, 15, 16, 17, 18, 19] (by decide +kernel) (by decide +kernel)
set_option maxRecDepth 20000 in
theorem gX6_restWith_X0_meets : GoodIn wsX6_restWith (wsV RX6 46 RX0 yX0_meets wsX0_meets) := goodIn_app (goodIn_of _ (by decide +kernel)) ggX6_restWith_X0_meets
theorem dX6_restWith_0 : decode cX6_restWith 0 = .ok (.aload_n 0, 1) := by decide +kernel
theorem dX6_restWith_1 : decode cX6_restWith 1 = .ok (.getfield 16, 3) := by decide +kernel
theorem dX6_restWith_4 : decode cX6_restWith 4 = .ok (.iload_n 1, 1) := by decide +kernel
theorem dX6_restWith_5 : decode cX6_restWith 5 = .ok (.aload_n 0, 1) := by decide +kernel
theorem dX6_restWith_6 : decode cX6_restWith 6 = .ok (.getfield 16, 3) := by decide +kernel
theorem dX6_restWith_9 : decode cX6_restWith 9 = .ok (.getfield 42, 3) := by decide +kernel
theorem dX6_restWith_12 : decode cX6_restWith 12 = .ok (.iload_n 2, 1) := by decide +kernel
theorem dX6_restWith_13 : decode cX6_restWith 13 = .ok (.iaload, 1) := by decide +kernel
theorem dX6_restWith_14 : decode cX6_restWith 14 = .ok (.invokevirtual 46, 3) := by decide +kernel
theorem dX6_restWith_17 : decode cX6_restWith 17 = .ok (.ifCond .eq 16, 3) := by decide +kernel
theorem dX6_restWith_20 : decode cX6_restWith 20 = .ok (.aload_n 0, 1) := by decide +kernel
theorem dX6_restWith_21 : decode cX6_restWith 21 = .ok (.getfield 11, 3) := by decide +kernel
theorem dX6_restWith_24 : decode cX6_restWith 24 = .ok (.iload_n 2, 1) := by decide +kernel
theorem dX6_restWith_25 : decode cX6_restWith 25 = .ok (.iconst 1, 1) := by decide +kernel
theorem dX6_restWith_26 : decode cX6_restWith 26 = .ok (.iadd, 1) := by decide +kernel
theorem dX6_restWith_27 : decode cX6_restWith 27 = .ok (.aaload, 1) := by decide +kernel
theorem dX6_restWith_28 : decode cX6_restWith 28 = .ok (.iload_n 1, 1) := by decide +kernel
theorem dX6_restWith_29 : decode cX6_restWith 29 = .ok (.iaload, 1) := by decide +kernel
theorem dX6_restWith_30 : decode cX6_restWith 30 = .ok (.goto 5, 3) := by decide +kernel
theorem dX6_restWith_33 : decode cX6_restWith 33 = .ok (.ldc 38, 2) := by decide +kernel
theorem dX6_restWith_35 : decode cX6_restWith 35 = .ok (.ireturn, 1) := by decide +kernel
set_option maxRecDepth 20000 in
theorem ggX6_choose_X0_setCount : GoodIn wsX6_choose wsX0_setCount := goodIn_r _ [11, 12, 18, 19, 20, 21, 22, 23, 24] (by decide +kernel) (by decide +kernel)
set_option maxRecDepth 20000 in
theorem gX6_choose_X0_setCount : GoodIn wsX6_choose (wsV RX6 20 RX0 yX0_setCount wsX0_setCount) := goodIn_app (goodIn_of _ (by decide +kernel)) ggX6_choose_X0_setCount
set_option maxRecDepth 20000 in
theorem ggX6_choose_X10_isIn : GoodIn wsX6_choose wsX10_isIn := goodIn_r _ [15] (by decide +kernel) (by decide +kernel)
set_option maxRecDepth 20000 in
theorem gX6_choose_X10_isIn_n53 : GoodIn wsX6_choose (wsX10_isIn) := ggX6_choose_X10_isIn
theorem dX6_choose_0 : decode cX6_choose 0 = .ok (.iconst 1, 1) := by decide +kernel
theorem dX6_choose_1 : decode cX6_choose 1 = .ok (.iload_n 2, 1) := by decide +kernel
theorem dX6_choose_2 : decode cX6_choose 2 = .ok (.ishl, 1) := by decide +kernel
theorem dX6_choose_3 : decode cX6_choose 3 = .ok (.istore_n 3, 1) := by decide +kernel
theorem dX6_choose_4 : decode cX6_choose 4 = .ok (.aload_n 0, 1) := by decide +kernel
theorem dX6_choose_5 : decode cX6_choose 5 = .ok (.getfield 16, 3) := by decide +kernel
theorem dX6_choose_8 : decode cX6_choose 8 = .ok (.getfield 50, 3) := by decide +kernel
theorem dX6_choose_11 : decode cX6_choose 11 = .ok (.iload_n 3, 1) := by decide +kernel
theorem dX6_choose_12 : decode cX6_choose 12 = .ok (.iaload, 1) := by decide +kernel
theorem dX6_choose_13 : decode cX6_choose 13 = .ok (.istore 4, 2) := by decide +kernel
theorem dX6_choose_15 : decode cX6_choose 15 = .ok (.iconst 0, 1) := by decide +kernel
theorem dX6_choose_16 : decode cX6_choose 16 = .ok (.istore 5, 2) := by decide +kernel
theorem dX6_choose_18 : decode cX6_choose 18 = .ok (.iload 5, 2) := by decide +kernel
theorem dX6_choose_20 : decode cX6_choose 20 = .ok (.aload_n 0, 1) := by decide +kernel
theorem dX6_choose_21 : decode cX6_choose 21 = .ok (.getfield 16, 3) := by decide +kernel
theorem dX6_choose_24 : decode cX6_choose 24 = .ok (.invokevirtual 20, 3) := by decide +kernel
theorem dX6_choose_27 : decode cX6_choose 27 = .ok (.if_icmp .ge 59, 3) := by decide +kernel
theorem dX6_choose_30 : decode cX6_choose 30 = .ok (.iload 5, 2) := by decide +kernel
theorem dX6_choose_32 : decode cX6_choose 32 = .ok (.iload_n 2, 1) := by decide +kernel
theorem dX6_choose_33 : decode cX6_choose 33 = .ok (.invokestatic 53, 3) := by decide +kernel
theorem dX6_choose_36 : decode cX6_choose 36 = .ok (.ifCond .ne 44, 3) := by decide +kernel
theorem dX6_choose_39 : decode cX6_choose 39 = .ok (.aload_n 1, 1) := by decide +kernel
theorem dX6_choose_40 : decode cX6_choose 40 = .ok (.iload 5, 2) := by decide +kernel
theorem dX6_choose_42 : decode cX6_choose 42 = .ok (.iaload, 1) := by decide +kernel
theorem dX6_choose_43 : decode cX6_choose 43 = .ok (.istore 6, 2) := by decide +kernel
theorem dX6_choose_45 : decode cX6_choose 45 = .ok (.aload_n 1, 1) := by decide +kernel
theorem dX6_choose_46 : decode cX6_choose 46 = .ok (.iload 5, 2) := by decide +kernel
theorem dX6_choose_48 : decode cX6_choose 48 = .ok (.iload_n 3, 1) := by decide +kernel
theorem dX6_choose_49 : decode cX6_choose 49 = .ok (.ior, 1) := by decide +kernel
theorem dX6_choose_50 : decode cX6_choose 50 = .ok (.iaload, 1) := by decide +kernel
theorem dX6_choose_51 : decode cX6_choose 51 = .ok (.istore 7, 2) := by decide +kernel
theorem dX6_choose_53 : decode cX6_choose 53 = .ok (.aload_n 1, 1) := by decide +kernel
theorem dX6_choose_54 : decode cX6_choose 54 = .ok (.iload 5, 2) := by decide +kernel
theorem dX6_choose_56 : decode cX6_choose 56 = .ok (.iload 6, 2) := by decide +kernel
theorem dX6_choose_58 : decode cX6_choose 58 = .ok (.iload 7, 2) := by decide +kernel
theorem dX6_choose_60 : decode cX6_choose 60 = .ok (.iload 4, 2) := by decide +kernel
theorem dX6_choose_62 : decode cX6_choose 62 = .ok (.iadd, 1) := by decide +kernel
theorem dX6_choose_63 : decode cX6_choose 63 = .ok (.invokestatic 56, 3) := by decide +kernel
theorem dX6_choose_66 : decode cX6_choose 66 = .ok (.iastore, 1) := by decide +kernel
theorem dX6_choose_67 : decode cX6_choose 67 = .ok (.aload_n 1, 1) := by decide +kernel
theorem dX6_choose_68 : decode cX6_choose 68 = .ok (.iload 5, 2) := by decide +kernel
theorem dX6_choose_70 : decode cX6_choose 70 = .ok (.iload_n 3, 1) := by decide +kernel
theorem dX6_choose_71 : decode cX6_choose 71 = .ok (.ior, 1) := by decide +kernel
theorem dX6_choose_72 : decode cX6_choose 72 = .ok (.iload 6, 2) := by decide +kernel
theorem dX6_choose_74 : decode cX6_choose 74 = .ok (.iload 7, 2) := by decide +kernel
theorem dX6_choose_76 : decode cX6_choose 76 = .ok (.invokestatic 56, 3) := by decide +kernel
theorem dX6_choose_79 : decode cX6_choose 79 = .ok (.iastore, 1) := by decide +kernel
theorem dX6_choose_80 : decode cX6_choose 80 = .ok (.iinc 5 1, 3) := by decide +kernel
theorem dX6_choose_83 : decode cX6_choose 83 = .ok (.goto (-65), 3) := by decide +kernel
theorem dX6_choose_86 : decode cX6_choose 86 = .ok (.return_, 1) := by decide +kernel
set_option maxRecDepth 20000 in
theorem ggX6_firstBest_X0_setCount : GoodIn wsX6_firstBest wsX0_setCount := goodIn_r _ [8, 9, 24, 25, 26, 27, 28, 29, 30] (by decide +kernel) (by decide +kernel)
set_option maxRecDepth 20000 in
theorem gX6_firstBest_X0_setCount : GoodIn wsX6_firstBest (wsV RX6 20 RX0 yX0_setCount wsX0_setCount) := goodIn_app (goodIn_of _ (by decide +kernel)) ggX6_firstBest_X0_setCount
set_option maxRecDepth 20000 in
theorem ggX6_firstBest_X6_restWith : GoodIn wsX6_firstBest wsX6_restWith := goodIn_r _ [14, 1, 15, 3, 16, 17, 18, 19, 7, 20, 21, 22, 23, 24, 25, 26, 27, 28, 29, 30] (by decide +kernel) (by decide +kernel)
set_option maxRecDepth 20000 in
theorem gX6_firstBest_X6_restWith : GoodIn wsX6_firstBest (wsV RX6 26 RX6 yX6_restWith wsX6_restWith) := goodIn_app (goodIn_of _ (by decide +kernel)) ggX6_firstBest_X6_restWith
theorem dX6_firstBest_0 : decode cX6_firstBest 0 = .ok (.iconst 0, 1) := by decide +kernel
theorem dX6_firstBest_1 : decode cX6_firstBest 1 = .ok (.istore_n 3, 1) := by decide +kernel
theorem dX6_firstBest_2 : decode cX6_firstBest 2 = .ok (.iload_n 3, 1) := by decide +kernel
theorem dX6_firstBest_3 : decode cX6_firstBest 3 = .ok (.aload_n 0, 1) := by decide +kernel
theorem dX6_firstBest_4 : decode cX6_firstBest 4 = .ok (.getfield 16, 3) := by decide +kernel
theorem dX6_firstBest_7 : decode cX6_firstBest 7 = .ok (.invokevirtual 20, 3) := by decide +kernel
theorem dX6_firstBest_10 : decode cX6_firstBest 10 = .ok (.if_icmp .ge 42, 3) := by decide +kernel
theorem dX6_firstBest_13 : decode cX6_firstBest 13 = .ok (.aload_n 0, 1) := by decide +kernel
theorem dX6_firstBest_14 : decode cX6_firstBest 14 = .ok (.getfield 16, 3) := by decide +kernel
theorem dX6_firstBest_17 : decode cX6_firstBest 17 = .ok (.getfield 50, 3) := by decide +kernel
theorem dX6_firstBest_20 : decode cX6_firstBest 20 = .ok (.iload_n 3, 1) := by decide +kernel
theorem dX6_firstBest_21 : decode cX6_firstBest 21 = .ok (.iload_n 2, 1) := by decide +kernel
theorem dX6_firstBest_22 : decode cX6_firstBest 22 = .ok (.iconst (-1), 1) := by decide +kernel
theorem dX6_firstBest_23 : decode cX6_firstBest 23 = .ok (.ixor, 1) := by decide +kernel
theorem dX6_firstBest_24 : decode cX6_firstBest 24 = .ok (.iand, 1) := by decide +kernel
theorem dX6_firstBest_25 : decode cX6_firstBest 25 = .ok (.iaload, 1) := by decide +kernel
theorem dX6_firstBest_26 : decode cX6_firstBest 26 = .ok (.aload_n 0, 1) := by decide +kernel
theorem dX6_firstBest_27 : decode cX6_firstBest 27 = .ok (.iload_n 3, 1) := by decide +kernel
theorem dX6_firstBest_28 : decode cX6_firstBest 28 = .ok (.iload_n 1, 1) := by decide +kernel
theorem dX6_firstBest_29 : decode cX6_firstBest 29 = .ok (.invokevirtual 26, 3) := by decide +kernel
theorem dX6_firstBest_32 : decode cX6_firstBest 32 = .ok (.iadd, 1) := by decide +kernel
theorem dX6_firstBest_33 : decode cX6_firstBest 33 = .ok (.aload_n 0, 1) := by decide +kernel
theorem dX6_firstBest_34 : decode cX6_firstBest 34 = .ok (.getfield 11, 3) := by decide +kernel
theorem dX6_firstBest_37 : decode cX6_firstBest 37 = .ok (.iload_n 1, 1) := by decide +kernel
theorem dX6_firstBest_38 : decode cX6_firstBest 38 = .ok (.aaload, 1) := by decide +kernel
theorem dX6_firstBest_39 : decode cX6_firstBest 39 = .ok (.iload_n 2, 1) := by decide +kernel
theorem dX6_firstBest_40 : decode cX6_firstBest 40 = .ok (.iaload, 1) := by decide +kernel
theorem dX6_firstBest_41 : decode cX6_firstBest 41 = .ok (.if_icmp .ne 5, 3) := by decide +kernel
theorem dX6_firstBest_44 : decode cX6_firstBest 44 = .ok (.iload_n 3, 1) := by decide +kernel
theorem dX6_firstBest_45 : decode cX6_firstBest 45 = .ok (.ireturn, 1) := by decide +kernel
theorem dX6_firstBest_46 : decode cX6_firstBest 46 = .ok (.iinc 3 1, 3) := by decide +kernel
theorem dX6_firstBest_49 : decode cX6_firstBest 49 = .ok (.goto (-47), 3) := by decide +kernel
theorem dX6_firstBest_52 : decode cX6_firstBest 52 = .ok (.iconst 0, 1) := by decide +kernel
theorem dX6_firstBest_53 : decode cX6_firstBest 53 = .ok (.ireturn, 1) := by decide +kernel
theorem dX7_init_0 : decode cX7_init 0 = .ok (.aload_n 0, 1) := by decide +kernel
theorem dX7_init_1 : decode cX7_init 1 = .ok (.invokespecial 3, 3) := by decide +kernel
theorem dX7_init_4 : decode cX7_init 4 = .ok (.aload_n 0, 1) := by decide +kernel
theorem dX7_init_5 : decode cX7_init 5 = .ok (.bipush 60, 2) := by decide +kernel
theorem dX7_init_7 : decode cX7_init 7 = .ok (.newarray .int, 2) := by decide +kernel
theorem dX7_init_9 : decode cX7_init 9 = .ok (.putfield 9, 3) := by decide +kernel
theorem dX7_init_12 : decode cX7_init 12 = .ok (.aload_n 0, 1) := by decide +kernel
theorem dX7_init_13 : decode cX7_init 13 = .ok (.iconst (-1), 1) := by decide +kernel
theorem dX7_init_14 : decode cX7_init 14 = .ok (.putfield 15, 3) := by decide +kernel
theorem dX7_init_17 : decode cX7_init 17 = .ok (.aload_n 0, 1) := by decide +kernel
theorem dX7_init_18 : decode cX7_init 18 = .ok (.iconst 0, 1) := by decide +kernel
theorem dX7_init_19 : decode cX7_init 19 = .ok (.putfield 19, 3) := by decide +kernel
theorem dX7_init_22 : decode cX7_init 22 = .ok (.return_, 1) := by decide +kernel
theorem dX7_isNothing_0 : decode cX7_isNothing 0 = .ok (.aload_n 0, 1) := by decide +kernel
theorem dX7_isNothing_1 : decode cX7_isNothing 1 = .ok (.getfield 15, 3) := by decide +kernel
theorem dX7_isNothing_4 : decode cX7_isNothing 4 = .ok (.iconst (-1), 1) := by decide +kernel
theorem dX7_isNothing_5 : decode cX7_isNothing 5 = .ok (.if_icmp .ne 7, 3) := by decide +kernel
theorem dX7_isNothing_8 : decode cX7_isNothing 8 = .ok (.iconst 1, 1) := by decide +kernel
theorem dX7_isNothing_9 : decode cX7_isNothing 9 = .ok (.goto 4, 3) := by decide +kernel
theorem dX7_isNothing_12 : decode cX7_isNothing 12 = .ok (.iconst 0, 1) := by decide +kernel
theorem dX7_isNothing_13 : decode cX7_isNothing 13 = .ok (.ireturn, 1) := by decide +kernel
theorem dX7_drop_0 : decode cX7_drop 0 = .ok (.aload_n 0, 1) := by decide +kernel
theorem dX7_drop_1 : decode cX7_drop 1 = .ok (.iconst (-1), 1) := by decide +kernel
theorem dX7_drop_2 : decode cX7_drop 2 = .ok (.putfield 15, 3) := by decide +kernel
theorem dX7_drop_5 : decode cX7_drop 5 = .ok (.aload_n 0, 1) := by decide +kernel
theorem dX7_drop_6 : decode cX7_drop 6 = .ok (.iconst 0, 1) := by decide +kernel
theorem dX7_drop_7 : decode cX7_drop 7 = .ok (.putfield 19, 3) := by decide +kernel
theorem dX7_drop_10 : decode cX7_drop 10 = .ok (.return_, 1) := by decide +kernel
set_option maxRecDepth 20000 in
theorem ggX7_renew_J7_fill_53178 : GoodIn wsX7_renew wsJ7_fill_53178 := goodIn_r _ [7] (by decide +kernel) (by decide +kernel)
set_option maxRecDepth 20000 in
theorem gX7_renew_J7_fill_53178 : GoodIn wsX7_renew (va_wsS RX7 22 yJ7_fill_53178 wsJ7_fill_53178) := goodIn_app (goodIn_of _ (by decide +kernel)) ggX7_renew_J7_fill_53178
theorem dX7_renew_0 : decode cX7_renew 0 = .ok (.aload_n 0, 1) := by decide +kernel
theorem dX7_renew_1 : decode cX7_renew 1 = .ok (.getfield 9, 3) := by decide +kernel
theorem dX7_renew_4 : decode cX7_renew 4 = .ok (.iconst 0, 1) := by decide +kernel
theorem dX7_renew_5 : decode cX7_renew 5 = .ok (.invokestatic 22, 3) := by decide +kernel
theorem dX7_renew_8 : decode cX7_renew 8 = .ok (.aload_n 0, 1) := by decide +kernel
theorem dX7_renew_9 : decode cX7_renew 9 = .ok (.iload_n 1, 1) := by decide +kernel
theorem dX7_renew_10 : decode cX7_renew 10 = .ok (.putfield 15, 3) := by decide +kernel
theorem dX7_renew_13 : decode cX7_renew 13 = .ok (.aload_n 0, 1) := by decide +kernel
theorem dX7_renew_14 : decode cX7_renew 14 = .ok (.iload_n 2, 1) := by decide +kernel
theorem dX7_renew_15 : decode cX7_renew 15 = .ok (.putfield 19, 3) := by decide +kernel
theorem dX7_renew_18 : decode cX7_renew 18 = .ok (.return_, 1) := by decide +kernel
theorem dX7_cut_0 : decode cX7_cut 0 = .ok (.aload_n 0, 1) := by decide +kernel
theorem dX7_cut_1 : decode cX7_cut 1 = .ok (.getfield 15, 3) := by decide +kernel
theorem dX7_cut_4 : decode cX7_cut 4 = .ok (.lookupswitch 34 #[(0, 28), (1, 31)], 28) := by decide +kernel
theorem dX7_cut_32 : decode cX7_cut 32 = .ok (.iload_n 1, 1) := by decide +kernel
theorem dX7_cut_33 : decode cX7_cut 33 = .ok (.i2b, 1) := by decide +kernel
theorem dX7_cut_34 : decode cX7_cut 34 = .ok (.ireturn, 1) := by decide +kernel
theorem dX7_cut_35 : decode cX7_cut 35 = .ok (.iload_n 1, 1) := by decide +kernel
theorem dX7_cut_36 : decode cX7_cut 36 = .ok (.i2s, 1) := by decide +kernel
theorem dX7_cut_37 : decode cX7_cut 37 = .ok (.ireturn, 1) := by decide +kernel
theorem dX7_cut_38 : decode cX7_cut 38 = .ok (.iload_n 1, 1) := by decide +kernel
theorem dX7_cut_39 : decode cX7_cut 39 = .ok (.ireturn, 1) := by decide +kernel
theorem dX7_hasRange_0 : decode cX7_hasRange 0 = .ok (.iload_n 1, 1) := by decide +kernel
theorem dX7_hasRange_1 : decode cX7_hasRange 1 = .ok (.ifCond .lt 25, 3) := by decide +kernel
theorem dX7_hasRange_4 : decode cX7_hasRange 4 = .ok (.iload_n 1, 1) := by decide +kernel
theorem dX7_hasRange_5 : decode cX7_hasRange 5 = .ok (.aload_n 0, 1) := by decide +kernel
theorem dX7_hasRange_6 : decode cX7_hasRange 6 = .ok (.getfield 19, 3) := by decide +kernel
theorem dX7_hasRange_9 : decode cX7_hasRange 9 = .ok (.if_icmp .gt 17, 3) := by decide +kernel
theorem dX7_hasRange_12 : decode cX7_hasRange 12 = .ok (.iload_n 2, 1) := by decide +kernel
theorem dX7_hasRange_13 : decode cX7_hasRange 13 = .ok (.aload_n 0, 1) := by decide +kernel
theorem dX7_hasRange_14 : decode cX7_hasRange 14 = .ok (.getfield 19, 3) := by decide +kernel
theorem dX7_hasRange_17 : decode cX7_hasRange 17 = .ok (.iload_n 1, 1) := by decide +kernel
theorem dX7_hasRange_18 : decode cX7_hasRange 18 = .ok (.isub, 1) := by decide +kernel
theorem dX7_hasRange_19 : decode cX7_hasRange 19 = .ok (.if_icmp .gt 7, 3) := by decide +kernel
theorem dX7_hasRange_22 : decode cX7_hasRange 22 = .ok (.iconst 1, 1) := by decide +kernel
theorem dX7_hasRange_23 : decode cX7_hasRange 23 = .ok (.goto 4, 3) := by decide +kernel
theorem dX7_hasRange_26 : decode cX7_hasRange 26 = .ok (.iconst 0, 1) := by decide +kernel
theorem dX7_hasRange_27 : decode cX7_hasRange 27 = .ok (.ireturn, 1) := by decide +kernel
set_option maxRecDepth 20000 in
theorem ggX7_faultOfRange_X7_faultOfLane : GoodIn wsX7_faultOfRange wsX7_faultOfLane := goodIn_r _ [5, 6, 7, 8, 9, 4, 10, 16, 17, 18] (by decide +kernel) (by decide +kernel)
set_option maxRecDepth 20000 in
theorem gX7_faultOfRange_X7_faultOfLane : GoodIn wsX7_faultOfRange (wsV RX7 28 RX7 yX7_faultOfLane wsX7_faultOfLane) := goodIn_app (goodIn_of _ (by decide +kernel)) ggX7_faultOfRange_X7_faultOfLane
set_option maxRecDepth 20000 in
theorem ggX7_faultOfRange_X7_hasRange : GoodIn wsX7_faultOfRange wsX7_hasRange := goodIn_r _ [14, 15, 16, 17, 18] (by decide +kernel) (by decide +kernel)
set_option maxRecDepth 20000 in
theorem gX7_faultOfRange_X7_hasRange : GoodIn wsX7_faultOfRange (wsV RX7 32 RX7 yX7_hasRange wsX7_hasRange) := goodIn_app (goodIn_of _ (by decide +kernel)) ggX7_faultOfRange_X7_hasRange
theorem dX7_faultOfRange_0 : decode cX7_faultOfRange 0 = .ok (.aload_n 0, 1) := by decide +kernel
theorem dX7_faultOfRange_1 : decode cX7_faultOfRange 1 = .ok (.iload_n 1, 1) := by decide +kernel
theorem dX7_faultOfRange_2 : decode cX7_faultOfRange 2 = .ok (.invokevirtual 28, 3) := by decide +kernel
theorem dX7_faultOfRange_5 : decode cX7_faultOfRange 5 = .ok (.istore 4, 2) := by decide +kernel
theorem dX7_faultOfRange_7 : decode cX7_faultOfRange 7 = .ok (.iload 4, 2) := by decide +kernel
theorem dX7_faultOfRange_9 : decode cX7_faultOfRange 9 = .ok (.ifCond .eq 6, 3) := by decide +kernel
theorem dX7_faultOfRange_12 : decode cX7_faultOfRange 12 = .ok (.iload 4, 2) := by decide +kernel
theorem dX7_faultOfRange_14 : decode cX7_faultOfRange 14 = .ok (.ireturn, 1) := by decide +kernel
theorem dX7_faultOfRange_15 : decode cX7_faultOfRange 15 = .ok (.iload_n 3, 1) := by decide +kernel
theorem dX7_faultOfRange_16 : decode cX7_faultOfRange 16 = .ok (.ifCond .ge 5, 3) := by decide +kernel
theorem dX7_faultOfRange_19 : decode cX7_faultOfRange 19 = .ok (.iconst 4, 1) := by decide +kernel
theorem dX7_faultOfRange_20 : decode cX7_faultOfRange 20 = .ok (.ireturn, 1) := by decide +kernel
theorem dX7_faultOfRange_21 : decode cX7_faultOfRange 21 = .ok (.aload_n 0, 1) := by decide +kernel
theorem dX7_faultOfRange_22 : decode cX7_faultOfRange 22 = .ok (.iload_n 2, 1) := by decide +kernel
theorem dX7_faultOfRange_23 : decode cX7_faultOfRange 23 = .ok (.iload_n 3, 1) := by decide +kernel
theorem dX7_faultOfRange_24 : decode cX7_faultOfRange 24 = .ok (.invokevirtual 32, 3) := by decide +kernel
theorem dX7_faultOfRange_27 : decode cX7_faultOfRange 27 = .ok (.ifCond .eq 7, 3) := by decide +kernel
theorem dX7_faultOfRange_30 : decode cX7_faultOfRange 30 = .ok (.iconst 0, 1) := by decide +kernel
theorem dX7_faultOfRange_31 : decode cX7_faultOfRange 31 = .ok (.goto 4, 3) := by decide +kernel
theorem dX7_faultOfRange_34 : decode cX7_faultOfRange 34 = .ok (.iconst 3, 1) := by decide +kernel
theorem dX7_faultOfRange_35 : decode cX7_faultOfRange 35 = .ok (.ireturn, 1) := by decide +kernel
set_option maxRecDepth 20000 in
theorem ggX7_faultOfCell_X7_faultOfLane : GoodIn wsX7_faultOfCell wsX7_faultOfLane := goodIn_r _ [6, 7, 8, 9, 10, 5, 11, 12, 13, 14] (by decide +kernel) (by decide +kernel)
set_option maxRecDepth 20000 in
theorem gX7_faultOfCell_X7_faultOfLane : GoodIn wsX7_faultOfCell (wsV RX7 28 RX7 yX7_faultOfLane wsX7_faultOfLane) := goodIn_app (goodIn_of _ (by decide +kernel)) ggX7_faultOfCell_X7_faultOfLane
theorem dX7_faultOfCell_0 : decode cX7_faultOfCell 0 = .ok (.aload_n 0, 1) := by decide +kernel
theorem dX7_faultOfCell_1 : decode cX7_faultOfCell 1 = .ok (.iload_n 1, 1) := by decide +kernel
theorem dX7_faultOfCell_2 : decode cX7_faultOfCell 2 = .ok (.invokevirtual 28, 3) := by decide +kernel
theorem dX7_faultOfCell_5 : decode cX7_faultOfCell 5 = .ok (.istore_n 3, 1) := by decide +kernel
theorem dX7_faultOfCell_6 : decode cX7_faultOfCell 6 = .ok (.iload_n 3, 1) := by decide +kernel
theorem dX7_faultOfCell_7 : decode cX7_faultOfCell 7 = .ok (.ifCond .eq 5, 3) := by decide +kernel
theorem dX7_faultOfCell_10 : decode cX7_faultOfCell 10 = .ok (.iload_n 3, 1) := by decide +kernel
theorem dX7_faultOfCell_11 : decode cX7_faultOfCell 11 = .ok (.ireturn, 1) := by decide +kernel
theorem dX7_faultOfCell_12 : decode cX7_faultOfCell 12 = .ok (.iload_n 2, 1) := by decide +kernel
theorem dX7_faultOfCell_13 : decode cX7_faultOfCell 13 = .ok (.ifCond .lt 15, 3) := by decide +kernel
theorem dX7_faultOfCell_16 : decode cX7_faultOfCell 16 = .ok (.iload_n 2, 1) := by decide +kernel
theorem dX7_faultOfCell_17 : decode cX7_faultOfCell 17 = .ok (.aload_n 0, 1) := by decide +kernel
theorem dX7_faultOfCell_18 : decode cX7_faultOfCell 18 = .ok (.getfield 19, 3) := by decide +kernel
theorem dX7_faultOfCell_21 : decode cX7_faultOfCell 21 = .ok (.if_icmp .ge 7, 3) := by decide +kernel
theorem dX7_faultOfCell_24 : decode cX7_faultOfCell 24 = .ok (.iconst 0, 1) := by decide +kernel
theorem dX7_faultOfCell_25 : decode cX7_faultOfCell 25 = .ok (.goto 4, 3) := by decide +kernel
theorem dX7_faultOfCell_28 : decode cX7_faultOfCell 28 = .ok (.iconst 3, 1) := by decide +kernel
theorem dX7_faultOfCell_29 : decode cX7_faultOfCell 29 = .ok (.ireturn, 1) := by decide +kernel
set_option maxRecDepth 20000 in
theorem ggX7_faultOfLane_X7_isNothing : GoodIn wsX7_faultOfLane wsX7_isNothing := goodIn_r _ [6, 1, 7, 8, 9] (by decide +kernel) (by decide +kernel)
set_option maxRecDepth 20000 in
theorem gX7_faultOfLane_X7_isNothing : GoodIn wsX7_faultOfLane (wsV RX7 36 RX7 yX7_isNothing wsX7_isNothing) := goodIn_app (goodIn_of _ (by decide +kernel)) ggX7_faultOfLane_X7_isNothing
theorem dX7_faultOfLane_0 : decode cX7_faultOfLane 0 = .ok (.aload_n 0, 1) := by decide +kernel
theorem dX7_faultOfLane_1 : decode cX7_faultOfLane 1 = .ok (.invokevirtual 36, 3) := by decide +kernel
theorem dX7_faultOfLane_4 : decode cX7_faultOfLane 4 = .ok (.ifCond .eq 5, 3) := by decide +kernel
theorem dX7_faultOfLane_7 : decode cX7_faultOfLane 7 = .ok (.iconst 1, 1) := by decide +kernel
theorem dX7_faultOfLane_8 : decode cX7_faultOfLane 8 = .ok (.ireturn, 1) := by decide +kernel
theorem dX7_faultOfLane_9 : decode cX7_faultOfLane 9 = .ok (.aload_n 0, 1) := by decide +kernel
theorem dX7_faultOfLane_10 : decode cX7_faultOfLane 10 = .ok (.getfield 15, 3) := by decide +kernel
theorem dX7_faultOfLane_13 : decode cX7_faultOfLane 13 = .ok (.iload_n 1, 1) := by decide +kernel
theorem dX7_faultOfLane_14 : decode cX7_faultOfLane 14 = .ok (.if_icmp .ne 7, 3) := by decide +kernel
theorem dX7_faultOfLane_17 : decode cX7_faultOfLane 17 = .ok (.iconst 0, 1) := by decide +kernel
theorem dX7_faultOfLane_18 : decode cX7_faultOfLane 18 = .ok (.goto 4, 3) := by decide +kernel
theorem dX7_faultOfLane_21 : decode cX7_faultOfLane 21 = .ok (.iconst 2, 1) := by decide +kernel
theorem dX7_faultOfLane_22 : decode cX7_faultOfLane 22 = .ok (.ireturn, 1) := by decide +kernel
theorem dX8_init_0 : decode cX8_init 0 = .ok (.aload_n 0, 1) := by decide +kernel
theorem dX8_init_1 : decode cX8_init 1 = .ok (.invokespecial 1, 3) := by decide +kernel
theorem dX8_init_4 : decode cX8_init 4 = .ok (.aload_n 0, 1) := by decide +kernel
theorem dX8_init_5 : decode cX8_init 5 = .ok (.iload_n 1, 1) := by decide +kernel
theorem dX8_init_6 : decode cX8_init 6 = .ok (.putfield 7, 3) := by decide +kernel
theorem dX8_init_9 : decode cX8_init 9 = .ok (.aload_n 0, 1) := by decide +kernel
theorem dX8_init_10 : decode cX8_init 10 = .ok (.iload_n 2, 1) := by decide +kernel
theorem dX8_init_11 : decode cX8_init 11 = .ok (.putfield 13, 3) := by decide +kernel
theorem dX8_init_14 : decode cX8_init 14 = .ok (.aload_n 0, 1) := by decide +kernel
theorem dX8_init_15 : decode cX8_init 15 = .ok (.iload_n 3, 1) := by decide +kernel
theorem dX8_init_16 : decode cX8_init 16 = .ok (.putfield 16, 3) := by decide +kernel
theorem dX8_init_19 : decode cX8_init 19 = .ok (.return_, 1) := by decide +kernel
theorem dX8_kindNumber_0 : decode cX8_kindNumber 0 = .ok (.iconst 0, 1) := by decide +kernel
theorem dX8_kindNumber_1 : decode cX8_kindNumber 1 = .ok (.ireturn, 1) := by decide +kernel
theorem dX8_harmOnce_0 : decode cX8_harmOnce 0 = .ok (.iconst 1, 1) := by decide +kernel
theorem dX8_harmOnce_1 : decode cX8_harmOnce 1 = .ok (.ireturn, 1) := by decide +kernel
set_option maxRecDepth 20000 in
theorem ggX8_telling_X8_plainTelling : GoodIn wsX8_telling wsX8_plainTelling := goodIn_r _ [6, 7, 8, 9, 10, 11, 12, 13, 17, 18, 19, 20, 21, 22, 23, 24, 25, 26] (by decide +kernel) (by decide +kernel)
set_option maxRecDepth 20000 in
theorem gX8_telling_X8_plainTelling_u19X1 : GoodIn wsX8_telling (va_wsU RX8 19 RX1 "AwakeTurns$Sleeper" ⟨"AwakeTurns$Sleeper", "plainTelling", "(LAwakeTurns$Marks;)I"⟩ yX8_plainTelling wsX8_plainTelling) := goodIn_app (goodIn_of _ (by decide +kernel)) ggX8_telling_X8_plainTelling
set_option maxRecDepth 20000 in
theorem gX8_telling_X8_plainTelling_u19X5 : GoodIn wsX8_telling (va_wsU RX8 19 RX5 "AwakeTurns$Sleeper" ⟨"AwakeTurns$Sleeper", "plainTelling", "(LAwakeTurns$Marks;)I"⟩ yX8_plainTelling wsX8_plainTelling) := goodIn_app (goodIn_of _ (by decide +kernel)) ggX8_telling_X8_plainTelling
set_option maxRecDepth 20000 in
theorem gX8_telling_X8_plainTelling : GoodIn wsX8_telling (wsV RX8 19 RX8 yX8_plainTelling wsX8_plainTelling) := goodIn_app (goodIn_of _ (by decide +kernel)) ggX8_telling_X8_plainTelling
theorem dX8_telling_0 : decode cX8_telling 0 = .ok (.aload_n 0, 1) := by decide +kernel
theorem dX8_telling_1 : decode cX8_telling 1 = .ok (.aload_n 1, 1) := by decide +kernel
theorem dX8_telling_2 : decode cX8_telling 2 = .ok (.invokevirtual 19, 3) := by decide +kernel
theorem dX8_telling_5 : decode cX8_telling 5 = .ok (.ireturn, 1) := by decide +kernel
set_option maxRecDepth 20000 in
theorem ggX8_plainTelling_X2_leave : GoodIn wsX8_plainTelling wsX2_leave := goodIn_r _ [6, 7, 17] (by decide +kernel) (by decide +kernel)
set_option maxRecDepth 20000 in
theorem gX8_plainTelling_X2_leave : GoodIn wsX8_plainTelling (wsV RX8 23 RX2 yX2_leave wsX2_leave) := goodIn_app (goodIn_of _ (by decide +kernel)) ggX8_plainTelling_X2_leave
theorem dX8_plainTelling_0 : decode cX8_plainTelling 0 = .ok (.aload_n 1, 1) := by decide +kernel
theorem dX8_plainTelling_1 : decode cX8_plainTelling 1 = .ok (.iconst 1, 1) := by decide +kernel
theorem dX8_plainTelling_2 : decode cX8_plainTelling 2 = .ok (.invokevirtual 23, 3) := by decide +kernel
theorem dX8_plainTelling_5 : decode cX8_plainTelling 5 = .ok (.aload_n 0, 1) := by decide +kernel
theorem dX8_plainTelling_6 : decode cX8_plainTelling 6 = .ok (.getfield 16, 3) := by decide +kernel
theorem dX8_plainTelling_9 : decode cX8_plainTelling 9 = .ok (.ireturn, 1) := by decide +kernel
set_option maxRecDepth 20000 in
theorem ggX8_greeting_X2_leave : GoodIn wsX8_greeting wsX2_leave := goodIn_r _ [6, 7, 17] (by decide +kernel) (by decide +kernel)
set_option maxRecDepth 20000 in
theorem gX8_greeting_X2_leave : GoodIn wsX8_greeting (wsV RX8 23 RX2 yX2_leave wsX2_leave) := goodIn_app (goodIn_of _ (by decide +kernel)) ggX8_greeting_X2_leave
theorem dX8_greeting_0 : decode cX8_greeting 0 = .ok (.aload_n 1, 1) := by decide +kernel
theorem dX8_greeting_1 : decode cX8_greeting 1 = .ok (.iconst 4, 1) := by decide +kernel
theorem dX8_greeting_2 : decode cX8_greeting 2 = .ok (.invokevirtual 23, 3) := by decide +kernel
theorem dX8_greeting_5 : decode cX8_greeting 5 = .ok (.aload_n 0, 1) := by decide +kernel
theorem dX8_greeting_6 : decode cX8_greeting 6 = .ok (.getfield 7, 3) := by decide +kernel
theorem dX8_greeting_9 : decode cX8_greeting 9 = .ok (.ireturn, 1) := by decide +kernel
set_option maxRecDepth 20000 in
theorem ggX9_firstFault_X9_mayStand : GoodIn wsX9_firstFault wsX9_mayStand := goodIn_r _ [4] (by decide +kernel) (by decide +kernel)
set_option maxRecDepth 20000 in
theorem gX9_firstFault_X9_mayStand : GoodIn wsX9_firstFault (va_wsS RX9 11 yX9_mayStand wsX9_mayStand) := goodIn_app (goodIn_of _ (by decide +kernel)) ggX9_firstFault_X9_mayStand
theorem dX9_firstFault_0 : decode cX9_firstFault 0 = .ok (.iconst 0, 1) := by decide +kernel
theorem dX9_firstFault_1 : decode cX9_firstFault 1 = .ok (.istore_n 3, 1) := by decide +kernel
theorem dX9_firstFault_2 : decode cX9_firstFault 2 = .ok (.iload_n 3, 1) := by decide +kernel
theorem dX9_firstFault_3 : decode cX9_firstFault 3 = .ok (.iload_n 2, 1) := by decide +kernel
theorem dX9_firstFault_4 : decode cX9_firstFault 4 = .ok (.if_icmp .ge 23, 3) := by decide +kernel
theorem dX9_firstFault_7 : decode cX9_firstFault 7 = .ok (.aload_n 0, 1) := by decide +kernel
theorem dX9_firstFault_8 : decode cX9_firstFault 8 = .ok (.iload_n 1, 1) := by decide +kernel
theorem dX9_firstFault_9 : decode cX9_firstFault 9 = .ok (.iload_n 3, 1) := by decide +kernel
theorem dX9_firstFault_10 : decode cX9_firstFault 10 = .ok (.iadd, 1) := by decide +kernel
theorem dX9_firstFault_11 : decode cX9_firstFault 11 = .ok (.iaload, 1) := by decide +kernel
theorem dX9_firstFault_12 : decode cX9_firstFault 12 = .ok (.iload_n 3, 1) := by decide +kernel
theorem dX9_firstFault_13 : decode cX9_firstFault 13 = .ok (.invokestatic 11, 3) := by decide +kernel
theorem dX9_firstFault_16 : decode cX9_firstFault 16 = .ok (.ifCond .ne 5, 3) := by decide +kernel
theorem dX9_firstFault_19 : decode cX9_firstFault 19 = .ok (.iload_n 3, 1) := by decide +kernel
theorem dX9_firstFault_20 : decode cX9_firstFault 20 = .ok (.ireturn, 1) := by decide +kernel
theorem dX9_firstFault_21 : decode cX9_firstFault 21 = .ok (.iinc 3 1, 3) := by decide +kernel
theorem dX9_firstFault_24 : decode cX9_firstFault 24 = .ok (.goto (-22), 3) := by decide +kernel
theorem dX9_firstFault_27 : decode cX9_firstFault 27 = .ok (.iload_n 2, 1) := by decide +kernel
theorem dX9_firstFault_28 : decode cX9_firstFault 28 = .ok (.bipush 9, 2) := by decide +kernel
theorem dX9_firstFault_30 : decode cX9_firstFault 30 = .ok (.if_icmp .lt 14, 3) := by decide +kernel
theorem dX9_firstFault_33 : decode cX9_firstFault 33 = .ok (.iload_n 2, 1) := by decide +kernel
theorem dX9_firstFault_34 : decode cX9_firstFault 34 = .ok (.iconst 4, 1) := by decide +kernel
theorem dX9_firstFault_35 : decode cX9_firstFault 35 = .ok (.irem, 1) := by decide +kernel
theorem dX9_firstFault_36 : decode cX9_firstFault 36 = .ok (.iconst 1, 1) := by decide +kernel
theorem dX9_firstFault_37 : decode cX9_firstFault 37 = .ok (.if_icmp .ne 7, 3) := by decide +kernel
theorem dX9_firstFault_40 : decode cX9_firstFault 40 = .ok (.iconst 1, 1) := by decide +kernel
theorem dX9_firstFault_41 : decode cX9_firstFault 41 = .ok (.goto 4, 3) := by decide +kernel
theorem dX9_firstFault_44 : decode cX9_firstFault 44 = .ok (.iconst 0, 1) := by decide +kernel
theorem dX9_firstFault_45 : decode cX9_firstFault 45 = .ok (.istore_n 3, 1) := by decide +kernel
theorem dX9_firstFault_46 : decode cX9_firstFault 46 = .ok (.iload_n 3, 1) := by decide +kernel
theorem dX9_firstFault_47 : decode cX9_firstFault 47 = .ok (.ifCond .eq 8, 3) := by decide +kernel
theorem dX9_firstFault_50 : decode cX9_firstFault 50 = .ok (.bipush (-9), 2) := by decide +kernel
theorem dX9_firstFault_52 : decode cX9_firstFault 52 = .ok (.goto 4, 3) := by decide +kernel
theorem dX9_firstFault_55 : decode cX9_firstFault 55 = .ok (.iload_n 2, 1) := by decide +kernel
theorem dX9_firstFault_56 : decode cX9_firstFault 56 = .ok (.ireturn, 1) := by decide +kernel
theorem dX9_mayStand_0 : decode cX9_mayStand 0 = .ok (.iload_n 1, 1) := by decide +kernel
theorem dX9_mayStand_1 : decode cX9_mayStand 1 = .ok (.ifCond .ne 15, 3) := by decide +kernel
theorem dX9_mayStand_4 : decode cX9_mayStand 4 = .ok (.iload_n 0, 1) := by decide +kernel
theorem dX9_mayStand_5 : decode cX9_mayStand 5 = .ok (.bipush 97, 2) := by decide +kernel
theorem dX9_mayStand_7 : decode cX9_mayStand 7 = .ok (.if_icmp .ne 7, 3) := by decide +kernel
theorem dX9_mayStand_10 : decode cX9_mayStand 10 = .ok (.iconst 1, 1) := by decide +kernel
theorem dX9_mayStand_11 : decode cX9_mayStand 11 = .ok (.goto 4, 3) := by decide +kernel
theorem dX9_mayStand_14 : decode cX9_mayStand 14 = .ok (.iconst 0, 1) := by decide +kernel
theorem dX9_mayStand_15 : decode cX9_mayStand 15 = .ok (.ireturn, 1) := by decide +kernel
theorem dX9_mayStand_16 : decode cX9_mayStand 16 = .ok (.iload_n 1, 1) := by decide +kernel
theorem dX9_mayStand_17 : decode cX9_mayStand 17 = .ok (.bipush 25, 2) := by decide +kernel
theorem dX9_mayStand_19 : decode cX9_mayStand 19 = .ok (.if_icmp .lt 5, 3) := by decide +kernel
theorem dX9_mayStand_22 : decode cX9_mayStand 22 = .ok (.iconst 0, 1) := by decide +kernel
theorem dX9_mayStand_23 : decode cX9_mayStand 23 = .ok (.ireturn, 1) := by decide +kernel
theorem dX9_mayStand_24 : decode cX9_mayStand 24 = .ok (.iload_n 1, 1) := by decide +kernel
theorem dX9_mayStand_25 : decode cX9_mayStand 25 = .ok (.iconst 4, 1) := by decide +kernel
theorem dX9_mayStand_26 : decode cX9_mayStand 26 = .ok (.irem, 1) := by decide +kernel
theorem dX9_mayStand_27 : decode cX9_mayStand 27 = .ok (.tableswitch 79 1 3 #[25, 37, 61], 25) := by decide +kernel
theorem dX9_mayStand_52 : decode cX9_mayStand 52 = .ok (.iload_n 0, 1) := by decide +kernel
theorem dX9_mayStand_53 : decode cX9_mayStand 53 = .ok (.bipush 59, 2) := by decide +kernel
theorem dX9_mayStand_55 : decode cX9_mayStand 55 = .ok (.if_icmp .ne 7, 3) := by decide +kernel
theorem dX9_mayStand_58 : decode cX9_mayStand 58 = .ok (.iconst 1, 1) := by decide +kernel
theorem dX9_mayStand_59 : decode cX9_mayStand 59 = .ok (.goto 4, 3) := by decide +kernel
theorem dX9_mayStand_62 : decode cX9_mayStand 62 = .ok (.iconst 0, 1) := by decide +kernel
theorem dX9_mayStand_63 : decode cX9_mayStand 63 = .ok (.ireturn, 1) := by decide +kernel
theorem dX9_mayStand_64 : decode cX9_mayStand 64 = .ok (.iload_n 0, 1) := by decide +kernel
theorem dX9_mayStand_65 : decode cX9_mayStand 65 = .ok (.bipush 115, 2) := by decide +kernel
theorem dX9_mayStand_67 : decode cX9_mayStand 67 = .ok (.if_icmp .eq 15, 3) := by decide +kernel
theorem dX9_mayStand_70 : decode cX9_mayStand 70 = .ok (.iload_n 0, 1) := by decide +kernel
theorem dX9_mayStand_71 : decode cX9_mayStand 71 = .ok (.bipush 102, 2) := by decide +kernel
theorem dX9_mayStand_73 : decode cX9_mayStand 73 = .ok (.if_icmp .eq 9, 3) := by decide +kernel
theorem dX9_mayStand_76 : decode cX9_mayStand 76 = .ok (.iload_n 0, 1) := by decide +kernel
theorem dX9_mayStand_77 : decode cX9_mayStand 77 = .ok (.bipush 111, 2) := by decide +kernel
theorem dX9_mayStand_79 : decode cX9_mayStand 79 = .ok (.if_icmp .ne 7, 3) := by decide +kernel
theorem dX9_mayStand_82 : decode cX9_mayStand 82 = .ok (.iconst 1, 1) := by decide +kernel
theorem dX9_mayStand_83 : decode cX9_mayStand 83 = .ok (.goto 4, 3) := by decide +kernel
theorem dX9_mayStand_86 : decode cX9_mayStand 86 = .ok (.iconst 0, 1) := by decide +kernel
theorem dX9_mayStand_87 : decode cX9_mayStand 87 = .ok (.ireturn, 1) := by decide +kernel
theorem dX9_mayStand_88 : decode cX9_mayStand 88 = .ok (.iload_n 0, 1) := by decide +kernel
theorem dX9_mayStand_89 : decode cX9_mayStand 89 = .ok (.bipush 48, 2) := by decide +kernel
theorem dX9_mayStand_91 : decode cX9_mayStand 91 = .ok (.if_icmp .lt 13, 3) := by decide +kernel
theorem dX9_mayStand_94 : decode cX9_mayStand 94 = .ok (.iload_n 0, 1) := by decide +kernel
theorem dX9_mayStand_95 : decode cX9_mayStand 95 = .ok (.bipush 55, 2) := by decide +kernel
theorem dX9_mayStand_97 : decode cX9_mayStand 97 = .ok (.if_icmp .gt 7, 3) := by decide +kernel
theorem dX9_mayStand_100 : decode cX9_mayStand 100 = .ok (.iconst 1, 1) := by decide +kernel
theorem dX9_mayStand_101 : decode cX9_mayStand 101 = .ok (.goto 4, 3) := by decide +kernel
theorem dX9_mayStand_104 : decode cX9_mayStand 104 = .ok (.iconst 0, 1) := by decide +kernel
theorem dX9_mayStand_105 : decode cX9_mayStand 105 = .ok (.ireturn, 1) := by decide +kernel
theorem dX9_mayStand_106 : decode cX9_mayStand 106 = .ok (.iload_n 0, 1) := by decide +kernel
theorem dX9_mayStand_107 : decode cX9_mayStand 107 = .ok (.bipush 49, 2) := by decide +kernel
theorem dX9_mayStand_109 : decode cX9_mayStand 109 = .ok (.if_icmp .lt 13, 3) := by decide +kernel
theorem dX9_mayStand_112 : decode cX9_mayStand 112 = .ok (.iload_n 0, 1) := by decide +kernel
theorem dX9_mayStand_113 : decode cX9_mayStand 113 = .ok (.bipush 57, 2) := by decide +kernel
theorem dX9_mayStand_115 : decode cX9_mayStand 115 = .ok (.if_icmp .gt 7, 3) := by decide +kernel
theorem dX9_mayStand_118 : decode cX9_mayStand 118 = .ok (.iconst 1, 1) := by decide +kernel
theorem dX9_mayStand_119 : decode cX9_mayStand 119 = .ok (.goto 4, 3) := by decide +kernel
theorem dX9_mayStand_122 : decode cX9_mayStand 122 = .ok (.iconst 0, 1) := by decide +kernel
theorem dX9_mayStand_123 : decode cX9_mayStand 123 = .ok (.ireturn, 1) := by decide +kernel
set_option maxRecDepth 20000 in
theorem ggX9_sleeper_X1_init : GoodIn wsX9_sleeper wsX1_init := goodIn_r _ [12, 13, 14, 9, 15, 16, 17, 18, 19, 20, 21, 27, 28, 29, 30, 31, 32, 33, 34, 35] (by decide +kernel) (by decide +kernel)
set_option maxRecDepth 20000 in
theorem gX9_sleeper_X1_init : GoodIn wsX9_sleeper (wsX1_init) := ggX9_sleeper_X1_init
set_option maxRecDepth 20000 in
theorem ggX9_sleeper_X5_init : GoodIn wsX9_sleeper wsX5_init := goodIn_r _ [24, 25, 11, 3, 12, 13, 14, 9, 15, 16, 17, 18, 19, 20, 21, 27, 28, 29, 30, 31, 32, 33, 34, 35] (by decide +kernel) (by decide +kernel)
set_option maxRecDepth 20000 in
theorem gX9_sleeper_X5_init : GoodIn wsX9_sleeper (wsX5_init) := ggX9_sleeper_X5_init
set_option maxRecDepth 20000 in
theorem ggX9_sleeper_X8_init : GoodIn wsX9_sleeper wsX8_init := goodIn_r _ [15, 16, 17, 18, 19, 20, 21, 27, 28, 29, 30, 31, 32, 33, 34, 35] (by decide +kernel) (by decide +kernel)
set_option maxRecDepth 20000 in
theorem gX9_sleeper_X8_init : GoodIn wsX9_sleeper (wsX8_init) := ggX9_sleeper_X8_init
theorem dX9_sleeper_0 : decode cX9_sleeper 0 = .ok (.iload_n 2, 1) := by decide +kernel
theorem dX9_sleeper_1 : decode cX9_sleeper 1 = .ok (.bipush 48, 2) := by decide +kernel
theorem dX9_sleeper_3 : decode cX9_sleeper 3 = .ok (.isub, 1) := by decide +kernel
theorem dX9_sleeper_4 : decode cX9_sleeper 4 = .ok (.istore 4, 2) := by decide +kernel
theorem dX9_sleeper_6 : decode cX9_sleeper 6 = .ok (.iload_n 3, 1) := by decide +kernel
theorem dX9_sleeper_7 : decode cX9_sleeper 7 = .ok (.bipush 48, 2) := by decide +kernel
theorem dX9_sleeper_9 : decode cX9_sleeper 9 = .ok (.isub, 1) := by decide +kernel
theorem dX9_sleeper_10 : decode cX9_sleeper 10 = .ok (.istore 5, 2) := by decide +kernel
theorem dX9_sleeper_12 : decode cX9_sleeper 12 = .ok (.iload_n 1, 1) := by decide +kernel
theorem dX9_sleeper_13 : decode cX9_sleeper 13 = .ok (.lookupswitch 53 #[(102, 27), (111, 40)], 27) := by decide +kernel
theorem dX9_sleeper_40 : decode cX9_sleeper 40 = .ok (.new 15, 3) := by decide +kernel
theorem dX9_sleeper_43 : decode cX9_sleeper 43 = .ok (.dup, 1) := by decide +kernel
theorem dX9_sleeper_44 : decode cX9_sleeper 44 = .ok (.iload_n 0, 1) := by decide +kernel
theorem dX9_sleeper_45 : decode cX9_sleeper 45 = .ok (.iload 4, 2) := by decide +kernel
theorem dX9_sleeper_47 : decode cX9_sleeper 47 = .ok (.iload 5, 2) := by decide +kernel
theorem dX9_sleeper_49 : decode cX9_sleeper 49 = .ok (.invokespecial 17, 3) := by decide +kernel
theorem dX9_sleeper_52 : decode cX9_sleeper 52 = .ok (.areturn, 1) := by decide +kernel
theorem dX9_sleeper_53 : decode cX9_sleeper 53 = .ok (.new 20, 3) := by decide +kernel
theorem dX9_sleeper_56 : decode cX9_sleeper 56 = .ok (.dup, 1) := by decide +kernel
theorem dX9_sleeper_57 : decode cX9_sleeper 57 = .ok (.iload_n 0, 1) := by decide +kernel
theorem dX9_sleeper_58 : decode cX9_sleeper 58 = .ok (.iload 4, 2) := by decide +kernel
theorem dX9_sleeper_60 : decode cX9_sleeper 60 = .ok (.iload 5, 2) := by decide +kernel
theorem dX9_sleeper_62 : decode cX9_sleeper 62 = .ok (.invokespecial 22, 3) := by decide +kernel
theorem dX9_sleeper_65 : decode cX9_sleeper 65 = .ok (.areturn, 1) := by decide +kernel
theorem dX9_sleeper_66 : decode cX9_sleeper 66 = .ok (.new 23, 3) := by decide +kernel
theorem dX9_sleeper_69 : decode cX9_sleeper 69 = .ok (.dup, 1) := by decide +kernel
theorem dX9_sleeper_70 : decode cX9_sleeper 70 = .ok (.iload_n 0, 1) := by decide +kernel
theorem dX9_sleeper_71 : decode cX9_sleeper 71 = .ok (.iload 4, 2) := by decide +kernel
theorem dX9_sleeper_73 : decode cX9_sleeper 73 = .ok (.iload 5, 2) := by decide +kernel
theorem dX9_sleeper_75 : decode cX9_sleeper 75 = .ok (.invokespecial 25, 3) := by decide +kernel
theorem dX9_sleeper_78 : decode cX9_sleeper 78 = .ok (.areturn, 1) := by decide +kernel
set_option maxRecDepth 20000 in
theorem ggX10_init_X7_init : GoodIn wsX10_init wsX7_init := goodIn_r _ [32, 33, 2, 3, 28, 34, 35, 36, 87, 88, 89] (by decide +kernel) (by decide +kernel)
set_option maxRecDepth 20000 in
theorem gX10_init_X7_init_n17 : GoodIn wsX10_init (wsX7_init) := ggX10_init_X7_init
set_option maxRecDepth 20000 in
theorem ggX10_init_X0_init : GoodIn wsX10_init wsX0_init := goodIn_r _ [38, 39, 2, 3, 40, 41, 28, 42, 43, 44, 45, 46, 47, 90, 91, 92, 93, 94, 95, 96] (by decide +kernel) (by decide +kernel)
set_option maxRecDepth 20000 in
theorem gX10_init_X0_init_n20 : GoodIn wsX10_init (wsX0_init) := ggX10_init_X0_init
set_option maxRecDepth 20000 in
theorem ggX10_init_X3_init : GoodIn wsX10_init wsX3_init := goodIn_r _ [50, 51, 2, 3, 28, 52, 53, 54, 55, 56, 97, 98, 99, 100, 101] (by decide +kernel) (by decide +kernel)
set_option maxRecDepth 20000 in
theorem gX10_init_X3_init : GoodIn wsX10_init (wsX3_init) := ggX10_init_X3_init
set_option maxRecDepth 20000 in
theorem ggX10_init_X6_init : GoodIn wsX10_init wsX6_init := goodIn_r _ [59, 60, 2, 3, 61, 28, 62, 63, 102, 103] (by decide +kernel) (by decide +kernel)
set_option maxRecDepth 20000 in
theorem gX10_init_X6_init : GoodIn wsX10_init (wsX6_init) := ggX10_init_X6_init
set_option maxRecDepth 20000 in
theorem ggX10_init_X4_init : GoodIn wsX10_init wsX4_init := goodIn_r _ [65, 66, 2, 3, 28, 67, 68, 69, 70, 71, 72, 73, 74, 104, 105, 106, 107, 108, 109, 110, 111] (by decide +kernel) (by decide +kernel)
set_option maxRecDepth 20000 in
theorem gX10_init_X4_init_n43 : GoodIn wsX10_init (wsX4_init) := ggX10_init_X4_init
set_option maxRecDepth 20000 in
theorem ggX10_init_X2_init : GoodIn wsX10_init wsX2_init := goodIn_r _ [76, 77, 2, 3, 78, 112] (by decide +kernel) (by decide +kernel)
set_option maxRecDepth 20000 in
theorem gX10_init_X2_init_n50 : GoodIn wsX10_init (wsX2_init) := ggX10_init_X2_init
theorem dX10_init_0 : decode cX10_init 0 = .ok (.aload_n 0, 1) := by decide +kernel
theorem dX10_init_1 : decode cX10_init 1 = .ok (.invokespecial 5, 3) := by decide +kernel
theorem dX10_init_4 : decode cX10_init 4 = .ok (.aload_n 0, 1) := by decide +kernel
theorem dX10_init_5 : decode cX10_init 5 = .ok (.iconst 4, 1) := by decide +kernel
theorem dX10_init_6 : decode cX10_init 6 = .ok (.anewarray 11, 3) := by decide +kernel
theorem dX10_init_9 : decode cX10_init 9 = .ok (.putfield 13, 3) := by decide +kernel
theorem dX10_init_12 : decode cX10_init 12 = .ok (.iconst 0, 1) := by decide +kernel
theorem dX10_init_13 : decode cX10_init 13 = .ok (.istore_n 1, 1) := by decide +kernel
theorem dX10_init_14 : decode cX10_init 14 = .ok (.iload_n 1, 1) := by decide +kernel
theorem dX10_init_15 : decode cX10_init 15 = .ok (.iconst 4, 1) := by decide +kernel
theorem dX10_init_16 : decode cX10_init 16 = .ok (.if_icmp .ge 22, 3) := by decide +kernel
theorem dX10_init_19 : decode cX10_init 19 = .ok (.aload_n 0, 1) := by decide +kernel
theorem dX10_init_20 : decode cX10_init 20 = .ok (.getfield 13, 3) := by decide +kernel
theorem dX10_init_23 : decode cX10_init 23 = .ok (.iload_n 1, 1) := by decide +kernel
theorem dX10_init_24 : decode cX10_init 24 = .ok (.new 11, 3) := by decide +kernel
theorem dX10_init_27 : decode cX10_init 27 = .ok (.dup, 1) := by decide +kernel
theorem dX10_init_28 : decode cX10_init 28 = .ok (.invokespecial 17, 3) := by decide +kernel
theorem dX10_init_31 : decode cX10_init 31 = .ok (.aastore, 1) := by decide +kernel
theorem dX10_init_32 : decode cX10_init 32 = .ok (.iinc 1 1, 3) := by decide +kernel
theorem dX10_init_35 : decode cX10_init 35 = .ok (.goto (-21), 3) := by decide +kernel
theorem dX10_init_38 : decode cX10_init 38 = .ok (.aload_n 0, 1) := by decide +kernel
theorem dX10_init_39 : decode cX10_init 39 = .ok (.new 18, 3) := by decide +kernel
theorem dX10_init_42 : decode cX10_init 42 = .ok (.dup, 1) := by decide +kernel
theorem dX10_init_43 : decode cX10_init 43 = .ok (.invokespecial 20, 3) := by decide +kernel
theorem dX10_init_46 : decode cX10_init 46 = .ok (.putfield 21, 3) := by decide +kernel
theorem dX10_init_49 : decode cX10_init 49 = .ok (.aload_n 0, 1) := by decide +kernel
theorem dX10_init_50 : decode cX10_init 50 = .ok (.new 25, 3) := by decide +kernel
theorem dX10_init_53 : decode cX10_init 53 = .ok (.dup, 1) := by decide +kernel
theorem dX10_init_54 : decode cX10_init 54 = .ok (.aload_n 0, 1) := by decide +kernel
theorem dX10_init_55 : decode cX10_init 55 = .ok (.getfield 21, 3) := by decide +kernel
theorem dX10_init_58 : decode cX10_init 58 = .ok (.invokespecial 27, 3) := by decide +kernel
theorem dX10_init_61 : decode cX10_init 61 = .ok (.putfield 30, 3) := by decide +kernel
theorem dX10_init_64 : decode cX10_init 64 = .ok (.aload_n 0, 1) := by decide +kernel
theorem dX10_init_65 : decode cX10_init 65 = .ok (.new 34, 3) := by decide +kernel
theorem dX10_init_68 : decode cX10_init 68 = .ok (.dup, 1) := by decide +kernel
theorem dX10_init_69 : decode cX10_init 69 = .ok (.aload_n 0, 1) := by decide +kernel
theorem dX10_init_70 : decode cX10_init 70 = .ok (.getfield 21, 3) := by decide +kernel
theorem dX10_init_73 : decode cX10_init 73 = .ok (.invokespecial 36, 3) := by decide +kernel
theorem dX10_init_76 : decode cX10_init 76 = .ok (.putfield 37, 3) := by decide +kernel
theorem dX10_init_79 : decode cX10_init 79 = .ok (.aload_n 0, 1) := by decide +kernel
theorem dX10_init_80 : decode cX10_init 80 = .ok (.new 41, 3) := by decide +kernel
theorem dX10_init_83 : decode cX10_init 83 = .ok (.dup, 1) := by decide +kernel
theorem dX10_init_84 : decode cX10_init 84 = .ok (.invokespecial 43, 3) := by decide +kernel
theorem dX10_init_87 : decode cX10_init 87 = .ok (.putfield 44, 3) := by decide +kernel
theorem dX10_init_90 : decode cX10_init 90 = .ok (.aload_n 0, 1) := by decide +kernel
theorem dX10_init_91 : decode cX10_init 91 = .ok (.new 48, 3) := by decide +kernel
theorem dX10_init_94 : decode cX10_init 94 = .ok (.dup, 1) := by decide +kernel
theorem dX10_init_95 : decode cX10_init 95 = .ok (.invokespecial 50, 3) := by decide +kernel
theorem dX10_init_98 : decode cX10_init 98 = .ok (.putfield 51, 3) := by decide +kernel
theorem dX10_init_101 : decode cX10_init 101 = .ok (.aload_n 0, 1) := by decide +kernel
theorem dX10_init_102 : decode cX10_init 102 = .ok (.bipush 12, 2) := by decide +kernel
theorem dX10_init_104 : decode cX10_init 104 = .ok (.newarray .int, 2) := by decide +kernel
theorem dX10_init_106 : decode cX10_init 106 = .ok (.putfield 55, 3) := by decide +kernel
theorem dX10_init_109 : decode cX10_init 109 = .ok (.aload_n 0, 1) := by decide +kernel
theorem dX10_init_110 : decode cX10_init 110 = .ok (.iconst 0, 1) := by decide +kernel
theorem dX10_init_111 : decode cX10_init 111 = .ok (.putfield 59, 3) := by decide +kernel
theorem dX10_init_114 : decode cX10_init 114 = .ok (.return_, 1) := by decide +kernel
set_option maxRecDepth 20000 in
theorem ggX10_ship_X10_sheetAt : GoodIn wsX10_ship wsX10_sheetAt := goodIn_r _ [10, 11, 124, 125, 126, 127, 128, 129, 130, 131] (by decide +kernel) (by decide +kernel)
set_option maxRecDepth 20000 in
theorem gX10_ship_X10_sheetAt : GoodIn wsX10_ship (wsV RX10 63 RX10 yX10_sheetAt wsX10_sheetAt) := goodIn_app (goodIn_of _ (by decide +kernel)) ggX10_ship_X10_sheetAt
set_option maxRecDepth 20000 in
theorem ggX10_ship_X10_refused : GoodIn wsX10_ship wsX10_refused := goodIn_r _ [15, 1, 124, 125, 126, 127, 128, 129, 130, 131] (by decide +kernel) (by decide +kernel)
set_option maxRecDepth 20000 in
theorem gX10_ship_X10_refused : GoodIn wsX10_ship (wsV RX10 67 RX10 yX10_refused wsX10_refused) := goodIn_app (goodIn_of _ (by decide +kernel)) ggX10_ship_X10_refused
set_option maxRecDepth 20000 in
theorem ggX10_ship_X10_isLane : GoodIn wsX10_ship wsX10_isLane := goodIn_r _ [18] (by decide +kernel) (by decide +kernel)
set_option maxRecDepth 20000 in
theorem gX10_ship_X10_isLane : GoodIn wsX10_ship (va_wsS RX10 71 yX10_isLane wsX10_isLane) := goodIn_app (goodIn_of _ (by decide +kernel)) ggX10_ship_X10_isLane
set_option maxRecDepth 20000 in
theorem ggX10_ship_X7_faultOfRange : GoodIn wsX10_ship wsX7_faultOfRange := goodIn_r _ [23, 24, 25, 26, 22, 27, 28, 29, 30, 31, 32, 33, 34, 35, 36, 37, 132, 133, 134] (by decide +kernel) (by decide +kernel)
set_option maxRecDepth 20000 in
theorem gX10_ship_X7_faultOfRange : GoodIn wsX10_ship (wsV RX10 75 RX7 yX7_faultOfRange wsX7_faultOfRange) := goodIn_app (goodIn_of _ (by decide +kernel)) ggX10_ship_X7_faultOfRange
set_option maxRecDepth 20000 in
theorem ggX10_ship_X10_failed : GoodIn wsX10_ship wsX10_failed := goodIn_r _ [41, 1, 124, 125, 126, 127, 128, 129, 130, 131] (by decide +kernel) (by decide +kernel)
set_option maxRecDepth 20000 in
theorem gX10_ship_X10_failed : GoodIn wsX10_ship (wsV RX10 79 RX10 yX10_failed wsX10_failed) := goodIn_app (goodIn_of _ (by decide +kernel)) ggX10_ship_X10_failed
set_option maxRecDepth 20000 in
theorem ggX10_ship_X9_firstFault : GoodIn wsX10_ship wsX9_firstFault := goodIn_r _ [45, 46, 47, 44, 48] (by decide +kernel) (by decide +kernel)
set_option maxRecDepth 20000 in
theorem gX10_ship_X9_firstFault : GoodIn wsX10_ship (va_wsS RX10 85 yX9_firstFault wsX9_firstFault) := goodIn_app (goodIn_of _ (by decide +kernel)) ggX10_ship_X9_firstFault
set_option maxRecDepth 20000 in
theorem ggX10_ship_X0_board : GoodIn wsX10_ship wsX0_board := goodIn_r _ [53, 54, 55, 56, 57, 58, 59, 60, 44, 61, 62, 63, 64, 65, 66, 67, 68, 69, 70, 71, 72, 73, 74, 75, 76, 77, 78, 79, 80, 81, 82, 83, 84, 85, 86, 87, 88, 89, 90, 52, 91, 92, 93, 94, 95, 96, 97, 98, 99, 100, 101, 102, 103, 104, 105, 106, 107, 108, 109, 110, 111, 112, 113, 114, 115, 116, 135, 136, 137, 138, 139, 140, 141, 142, 143, 144, 145, 146, 147, 148, 149, 150] (by decide +kernel) (by decide +kernel)
set_option maxRecDepth 20000 in
theorem gX10_ship_X0_board : GoodIn wsX10_ship (wsV RX10 91 RX0 yX0_board wsX0_board) := goodIn_app (goodIn_of _ (by decide +kernel)) ggX10_ship_X0_board
set_option maxRecDepth 20000 in
theorem ggX10_ship_X4_forgetAll : GoodIn wsX10_ship wsX4_forgetAll := goodIn_r _ [121, 122, 123, 151, 152, 153, 154, 155, 156, 157, 158] (by decide +kernel) (by decide +kernel)
set_option maxRecDepth 20000 in
theorem gX10_ship_X4_forgetAll : GoodIn wsX10_ship (wsV RX10 95 RX4 yX4_forgetAll wsX4_forgetAll) := goodIn_app (goodIn_of _ (by decide +kernel)) ggX10_ship_X4_forgetAll
theorem dX10_ship_0 : decode cX10_ship 0 = .ok (.aload_n 0, 1) := by decide +kernel
theorem dX10_ship_1 : decode cX10_ship 1 = .ok (.iload_n 1, 1) := by decide +kernel
theorem dX10_ship_2 : decode cX10_ship 2 = .ok (.invokevirtual 63, 3) := by decide +kernel
theorem dX10_ship_5 : decode cX10_ship 5 = .ok (.astore 5, 2) := by decide +kernel
theorem dX10_ship_7 : decode cX10_ship 7 = .ok (.aload 5, 2) := by decide +kernel
theorem dX10_ship_9 : decode cX10_ship 9 = .ok (.ifnonnull 9, 3) := by decide +kernel
theorem dX10_ship_12 : decode cX10_ship 12 = .ok (.aload_n 0, 1) := by decide +kernel
theorem dX10_ship_13 : decode cX10_ship 13 = .ok (.iconst (-1), 1) := by decide +kernel
theorem dX10_ship_14 : decode cX10_ship 14 = .ok (.invokevirtual 67, 3) := by decide +kernel
theorem dX10_ship_17 : decode cX10_ship 17 = .ok (.ireturn, 1) := by decide +kernel
theorem dX10_ship_18 : decode cX10_ship 18 = .ok (.iload_n 2, 1) := by decide +kernel
theorem dX10_ship_19 : decode cX10_ship 19 = .ok (.invokestatic 71, 3) := by decide +kernel
theorem dX10_ship_22 : decode cX10_ship 22 = .ok (.ifCond .ne 10, 3) := by decide +kernel
theorem dX10_ship_25 : decode cX10_ship 25 = .ok (.aload_n 0, 1) := by decide +kernel
theorem dX10_ship_26 : decode cX10_ship 26 = .ok (.bipush (-2), 2) := by decide +kernel
theorem dX10_ship_28 : decode cX10_ship 28 = .ok (.invokevirtual 67, 3) := by decide +kernel
theorem dX10_ship_31 : decode cX10_ship 31 = .ok (.ireturn, 1) := by decide +kernel
theorem dX10_ship_32 : decode cX10_ship 32 = .ok (.aload 5, 2) := by decide +kernel
theorem dX10_ship_34 : decode cX10_ship 34 = .ok (.iload_n 2, 1) := by decide +kernel
theorem dX10_ship_35 : decode cX10_ship 35 = .ok (.iload_n 3, 1) := by decide +kernel
theorem dX10_ship_36 : decode cX10_ship 36 = .ok (.iload 4, 2) := by decide +kernel
theorem dX10_ship_38 : decode cX10_ship 38 = .ok (.invokevirtual 75, 3) := by decide +kernel
theorem dX10_ship_41 : decode cX10_ship 41 = .ok (.istore 6, 2) := by decide +kernel
theorem dX10_ship_43 : decode cX10_ship 43 = .ok (.iload 6, 2) := by decide +kernel
theorem dX10_ship_45 : decode cX10_ship 45 = .ok (.ifCond .eq 10, 3) := by decide +kernel
theorem dX10_ship_48 : decode cX10_ship 48 = .ok (.aload_n 0, 1) := by decide +kernel
theorem dX10_ship_49 : decode cX10_ship 49 = .ok (.iload 6, 2) := by decide +kernel
theorem dX10_ship_51 : decode cX10_ship 51 = .ok (.invokevirtual 79, 3) := by decide +kernel
theorem dX10_ship_54 : decode cX10_ship 54 = .ok (.ireturn, 1) := by decide +kernel
theorem dX10_ship_55 : decode cX10_ship 55 = .ok (.aload_n 0, 1) := by decide +kernel
theorem dX10_ship_56 : decode cX10_ship 56 = .ok (.iconst 0, 1) := by decide +kernel
theorem dX10_ship_57 : decode cX10_ship 57 = .ok (.putfield 59, 3) := by decide +kernel
theorem dX10_ship_60 : decode cX10_ship 60 = .ok (.aload 5, 2) := by decide +kernel
theorem dX10_ship_62 : decode cX10_ship 62 = .ok (.getfield 82, 3) := by decide +kernel
theorem dX10_ship_65 : decode cX10_ship 65 = .ok (.iload_n 3, 1) := by decide +kernel
theorem dX10_ship_66 : decode cX10_ship 66 = .ok (.iload 4, 2) := by decide +kernel
theorem dX10_ship_68 : decode cX10_ship 68 = .ok (.invokestatic 85, 3) := by decide +kernel
theorem dX10_ship_71 : decode cX10_ship 71 = .ok (.istore 7, 2) := by decide +kernel
theorem dX10_ship_73 : decode cX10_ship 73 = .ok (.iload 7, 2) := by decide +kernel
theorem dX10_ship_75 : decode cX10_ship 75 = .ok (.bipush (-9), 2) := by decide +kernel
theorem dX10_ship_77 : decode cX10_ship 77 = .ok (.if_icmp .eq 9, 3) := by decide +kernel
theorem dX10_ship_80 : decode cX10_ship 80 = .ok (.bipush (-100), 2) := by decide +kernel
theorem dX10_ship_82 : decode cX10_ship 82 = .ok (.iload 7, 2) := by decide +kernel
theorem dX10_ship_84 : decode cX10_ship 84 = .ok (.isub, 1) := by decide +kernel
theorem dX10_ship_85 : decode cX10_ship 85 = .ok (.ireturn, 1) := by decide +kernel
theorem dX10_ship_86 : decode cX10_ship 86 = .ok (.aload_n 0, 1) := by decide +kernel
theorem dX10_ship_87 : decode cX10_ship 87 = .ok (.getfield 21, 3) := by decide +kernel
theorem dX10_ship_90 : decode cX10_ship 90 = .ok (.aload 5, 2) := by decide +kernel
theorem dX10_ship_92 : decode cX10_ship 92 = .ok (.getfield 82, 3) := by decide +kernel
theorem dX10_ship_95 : decode cX10_ship 95 = .ok (.iload_n 3, 1) := by decide +kernel
theorem dX10_ship_96 : decode cX10_ship 96 = .ok (.iload 4, 2) := by decide +kernel
theorem dX10_ship_98 : decode cX10_ship 98 = .ok (.invokevirtual 91, 3) := by decide +kernel
theorem dX10_ship_101 : decode cX10_ship 101 = .ok (.aload_n 0, 1) := by decide +kernel
theorem dX10_ship_102 : decode cX10_ship 102 = .ok (.getfield 44, 3) := by decide +kernel
theorem dX10_ship_105 : decode cX10_ship 105 = .ok (.invokevirtual 95, 3) := by decide +kernel
theorem dX10_ship_108 : decode cX10_ship 108 = .ok (.aload_n 0, 1) := by decide +kernel
theorem dX10_ship_109 : decode cX10_ship 109 = .ok (.getfield 21, 3) := by decide +kernel
theorem dX10_ship_112 : decode cX10_ship 112 = .ok (.getfield 98, 3) := by decide +kernel
theorem dX10_ship_115 : decode cX10_ship 115 = .ok (.ireturn, 1) := by decide +kernel
set_option maxRecDepth 20000 in
theorem ggX10_ofSleeper_X0_at : GoodIn wsX10_ofSleeper wsX0_at := goodIn_r _ [8, 9, 10, 11, 12, 7, 13, 14, 66, 67, 68, 69, 70, 71, 72] (by decide +kernel) (by decide +kernel)
set_option maxRecDepth 20000 in
theorem gX10_ofSleeper_X0_at : GoodIn wsX10_ofSleeper (wsV RX10 101 RX0 yX0_at wsX0_at) := goodIn_app (goodIn_of _ (by decide +kernel)) ggX10_ofSleeper_X0_at
set_option maxRecDepth 20000 in
theorem ggX10_ofSleeper_X1_kindNumber : GoodIn wsX10_ofSleeper wsX1_kindNumber := goodIn_r _ [21] (by decide +kernel) (by decide +kernel)
set_option maxRecDepth 20000 in
theorem gX10_ofSleeper_X1_kindNumber_u105X1 : GoodIn wsX10_ofSleeper (va_wsO RX10 105 RX1 "AwakeTurns$Sleeper" ⟨"AwakeTurns$Sleeper", "kindNumber", "()I"⟩ yX1_kindNumber wsX1_kindNumber) := goodIn_app (goodIn_of _ (by decide +kernel)) ggX10_ofSleeper_X1_kindNumber
set_option maxRecDepth 20000 in
theorem ggX10_ofSleeper_X5_kindNumber : GoodIn wsX10_ofSleeper wsX5_kindNumber := goodIn_r _ [26] (by decide +kernel) (by decide +kernel)
set_option maxRecDepth 20000 in
theorem gX10_ofSleeper_X5_kindNumber_u105X5 : GoodIn wsX10_ofSleeper (va_wsO RX10 105 RX5 "AwakeTurns$Sleeper" ⟨"AwakeTurns$Sleeper", "kindNumber", "()I"⟩ yX5_kindNumber wsX5_kindNumber) := goodIn_app (goodIn_of _ (by decide +kernel)) ggX10_ofSleeper_X5_kindNumber
set_option maxRecDepth 20000 in
theorem ggX10_ofSleeper_X8_kindNumber : GoodIn wsX10_ofSleeper wsX8_kindNumber := goodIn_r _ [22] (by decide +kernel) (by decide +kernel)
set_option maxRecDepth 20000 in
theorem gX10_ofSleeper_X8_kindNumber : GoodIn wsX10_ofSleeper (wsV RX10 105 RX8 yX8_kindNumber wsX8_kindNumber) := goodIn_app (goodIn_of _ (by decide +kernel)) ggX10_ofSleeper_X8_kindNumber
set_option maxRecDepth 20000 in
theorem ggX10_ofSleeper_X1_harmOnce : GoodIn wsX10_ofSleeper wsX1_harmOnce := goodIn_r _ [36, 37, 32, 38, 39, 30, 40] (by decide +kernel) (by decide +kernel)
set_option maxRecDepth 20000 in
theorem gX10_ofSleeper_X1_harmOnce_u117X1 : GoodIn wsX10_ofSleeper (va_wsO RX10 117 RX1 "AwakeTurns$Sleeper" ⟨"AwakeTurns$Sleeper", "harmOnce", "()I"⟩ yX1_harmOnce wsX1_harmOnce) := goodIn_app (goodIn_of _ (by decide +kernel)) ggX10_ofSleeper_X1_harmOnce
set_option maxRecDepth 20000 in
theorem ggX10_ofSleeper_X5_harmOnce : GoodIn wsX10_ofSleeper wsX5_harmOnce := goodIn_r _ [43, 44, 45, 46, 35, 20, 36, 37, 32, 38, 39, 30, 40] (by decide +kernel) (by decide +kernel)
set_option maxRecDepth 20000 in
theorem gX10_ofSleeper_X5_harmOnce_u117X5 : GoodIn wsX10_ofSleeper (va_wsO RX10 117 RX5 "AwakeTurns$Sleeper" ⟨"AwakeTurns$Sleeper", "harmOnce", "()I"⟩ yX5_harmOnce wsX5_harmOnce) := goodIn_app (goodIn_of _ (by decide +kernel)) ggX10_ofSleeper_X5_harmOnce
set_option maxRecDepth 20000 in
theorem ggX10_ofSleeper_X8_harmOnce : GoodIn wsX10_ofSleeper wsX8_harmOnce := goodIn_r _ [40] (by decide +kernel) (by decide +kernel)
