set_option maxRecDepth 20000 in
theorem gX10_ofSleeper_X8_harmOnce : GoodIn wsX10_ofSleeper (wsV RX10 117 RX8 yX8_harmOnce wsX8_harmOnce) := goodIn_app (goodIn_of _ (by decide +kernel)) ggX10_ofSleeper_X8_harmOnce
theorem dX10_ofSleeper_0 : decode cX10_ofSleeper 0 = .ok (.aload_n 0, 1) := by decide +kernel
theorem dX10_ofSleeper_1 : decode cX10_ofSleeper 1 = .ok (.getfield 21, 3) := by decide +kernel
theorem dX10_ofSleeper_4 : decode cX10_ofSleeper 4 = .ok (.iload_n 1, 1) := by decide +kernel
theorem dX10_ofSleeper_5 : decode cX10_ofSleeper 5 = .ok (.invokevirtual 101, 3) := by decide +kernel
theorem dX10_ofSleeper_8 : decode cX10_ofSleeper 8 = .ok (.astore_n 3, 1) := by decide +kernel
theorem dX10_ofSleeper_9 : decode cX10_ofSleeper 9 = .ok (.aload_n 3, 1) := by decide +kernel
theorem dX10_ofSleeper_10 : decode cX10_ofSleeper 10 = .ok (.ifnonnull 5, 3) := by decide +kernel
theorem dX10_ofSleeper_13 : decode cX10_ofSleeper 13 = .ok (.iconst (-1), 1) := by decide +kernel
theorem dX10_ofSleeper_14 : decode cX10_ofSleeper 14 = .ok (.ireturn, 1) := by decide +kernel
theorem dX10_ofSleeper_15 : decode cX10_ofSleeper 15 = .ok (.iload_n 2, 1) := by decide +kernel
theorem dX10_ofSleeper_16 : decode cX10_ofSleeper 16 = .ok (.tableswitch 52 0 3 #[32, 37, 42, 47], 32) := by decide +kernel
theorem dX10_ofSleeper_48 : decode cX10_ofSleeper 48 = .ok (.aload_n 3, 1) := by decide +kernel
theorem dX10_ofSleeper_49 : decode cX10_ofSleeper 49 = .ok (.invokevirtual 105, 3) := by decide +kernel
theorem dX10_ofSleeper_52 : decode cX10_ofSleeper 52 = .ok (.ireturn, 1) := by decide +kernel
theorem dX10_ofSleeper_53 : decode cX10_ofSleeper 53 = .ok (.aload_n 3, 1) := by decide +kernel
theorem dX10_ofSleeper_54 : decode cX10_ofSleeper 54 = .ok (.getfield 111, 3) := by decide +kernel
theorem dX10_ofSleeper_57 : decode cX10_ofSleeper 57 = .ok (.ireturn, 1) := by decide +kernel
theorem dX10_ofSleeper_58 : decode cX10_ofSleeper 58 = .ok (.aload_n 3, 1) := by decide +kernel
theorem dX10_ofSleeper_59 : decode cX10_ofSleeper 59 = .ok (.getfield 114, 3) := by decide +kernel
theorem dX10_ofSleeper_62 : decode cX10_ofSleeper 62 = .ok (.ireturn, 1) := by decide +kernel
theorem dX10_ofSleeper_63 : decode cX10_ofSleeper 63 = .ok (.aload_n 3, 1) := by decide +kernel
theorem dX10_ofSleeper_64 : decode cX10_ofSleeper 64 = .ok (.invokevirtual 117, 3) := by decide +kernel
theorem dX10_ofSleeper_67 : decode cX10_ofSleeper 67 = .ok (.ireturn, 1) := by decide +kernel
theorem dX10_ofSleeper_68 : decode cX10_ofSleeper 68 = .ok (.bipush (-2), 2) := by decide +kernel
theorem dX10_ofSleeper_70 : decode cX10_ofSleeper 70 = .ok (.ireturn, 1) := by decide +kernel
set_option maxRecDepth 20000 in
theorem ggX10_up_X0_has : GoodIn wsX10_up wsX0_has := goodIn_r _ [7, 8, 21, 22, 23, 24, 25, 26, 27] (by decide +kernel) (by decide +kernel)
set_option maxRecDepth 20000 in
theorem gX10_up_X0_has : GoodIn wsX10_up (wsV RX10 120 RX0 yX0_has wsX0_has) := goodIn_app (goodIn_of _ (by decide +kernel)) ggX10_up_X0_has
set_option maxRecDepth 20000 in
theorem ggX10_up_X10_isMonth : GoodIn wsX10_up wsX10_isMonth := goodIn_r _ [12] (by decide +kernel) (by decide +kernel)
set_option maxRecDepth 20000 in
theorem gX10_up_X10_isMonth : GoodIn wsX10_up (va_wsS RX10 123 yX10_isMonth wsX10_isMonth) := goodIn_app (goodIn_of _ (by decide +kernel)) ggX10_up_X10_isMonth
theorem dX10_up_0 : decode cX10_up 0 = .ok (.aload_n 0, 1) := by decide +kernel
theorem dX10_up_1 : decode cX10_up 1 = .ok (.getfield 21, 3) := by decide +kernel
theorem dX10_up_4 : decode cX10_up 4 = .ok (.iload_n 1, 1) := by decide +kernel
theorem dX10_up_5 : decode cX10_up 5 = .ok (.invokevirtual 120, 3) := by decide +kernel
theorem dX10_up_8 : decode cX10_up 8 = .ok (.ifCond .ne 5, 3) := by decide +kernel
theorem dX10_up_11 : decode cX10_up 11 = .ok (.iconst (-1), 1) := by decide +kernel
theorem dX10_up_12 : decode cX10_up 12 = .ok (.ireturn, 1) := by decide +kernel
theorem dX10_up_13 : decode cX10_up 13 = .ok (.iload_n 2, 1) := by decide +kernel
theorem dX10_up_14 : decode cX10_up 14 = .ok (.invokestatic 123, 3) := by decide +kernel
theorem dX10_up_17 : decode cX10_up 17 = .ok (.ifCond .ne 6, 3) := by decide +kernel
theorem dX10_up_20 : decode cX10_up 20 = .ok (.bipush (-2), 2) := by decide +kernel
theorem dX10_up_22 : decode cX10_up 22 = .ok (.ireturn, 1) := by decide +kernel
theorem dX10_up_23 : decode cX10_up 23 = .ok (.aload_n 0, 1) := by decide +kernel
theorem dX10_up_24 : decode cX10_up 24 = .ok (.getfield 21, 3) := by decide +kernel
theorem dX10_up_27 : decode cX10_up 27 = .ok (.getfield 126, 3) := by decide +kernel
theorem dX10_up_30 : decode cX10_up 30 = .ok (.iload_n 2, 1) := by decide +kernel
theorem dX10_up_31 : decode cX10_up 31 = .ok (.iaload, 1) := by decide +kernel
theorem dX10_up_32 : decode cX10_up 32 = .ok (.istore 4, 2) := by decide +kernel
theorem dX10_up_34 : decode cX10_up 34 = .ok (.iload_n 3, 1) := by decide +kernel
theorem dX10_up_35 : decode cX10_up 35 = .ok (.ifCond .eq 12, 3) := by decide +kernel
theorem dX10_up_38 : decode cX10_up 38 = .ok (.iload 4, 2) := by decide +kernel
theorem dX10_up_40 : decode cX10_up 40 = .ok (.iconst 1, 1) := by decide +kernel
theorem dX10_up_41 : decode cX10_up 41 = .ok (.iload_n 1, 1) := by decide +kernel
theorem dX10_up_42 : decode cX10_up 42 = .ok (.ishl, 1) := by decide +kernel
theorem dX10_up_43 : decode cX10_up 43 = .ok (.ior, 1) := by decide +kernel
theorem dX10_up_44 : decode cX10_up 44 = .ok (.goto 11, 3) := by decide +kernel
theorem dX10_up_47 : decode cX10_up 47 = .ok (.iload 4, 2) := by decide +kernel
theorem dX10_up_49 : decode cX10_up 49 = .ok (.iconst 1, 1) := by decide +kernel
theorem dX10_up_50 : decode cX10_up 50 = .ok (.iload_n 1, 1) := by decide +kernel
theorem dX10_up_51 : decode cX10_up 51 = .ok (.ishl, 1) := by decide +kernel
theorem dX10_up_52 : decode cX10_up 52 = .ok (.iconst (-1), 1) := by decide +kernel
theorem dX10_up_53 : decode cX10_up 53 = .ok (.ixor, 1) := by decide +kernel
theorem dX10_up_54 : decode cX10_up 54 = .ok (.iand, 1) := by decide +kernel
theorem dX10_up_55 : decode cX10_up 55 = .ok (.istore 5, 2) := by decide +kernel
theorem dX10_up_57 : decode cX10_up 57 = .ok (.aload_n 0, 1) := by decide +kernel
theorem dX10_up_58 : decode cX10_up 58 = .ok (.getfield 21, 3) := by decide +kernel
theorem dX10_up_61 : decode cX10_up 61 = .ok (.getfield 126, 3) := by decide +kernel
theorem dX10_up_64 : decode cX10_up 64 = .ok (.iload_n 2, 1) := by decide +kernel
theorem dX10_up_65 : decode cX10_up 65 = .ok (.iload 5, 2) := by decide +kernel
theorem dX10_up_67 : decode cX10_up 67 = .ok (.iastore, 1) := by decide +kernel
theorem dX10_up_68 : decode cX10_up 68 = .ok (.iload 4, 2) := by decide +kernel
theorem dX10_up_70 : decode cX10_up 70 = .ok (.iload 5, 2) := by decide +kernel
theorem dX10_up_72 : decode cX10_up 72 = .ok (.if_icmp .ne 7, 3) := by decide +kernel
theorem dX10_up_75 : decode cX10_up 75 = .ok (.iconst 0, 1) := by decide +kernel
theorem dX10_up_76 : decode cX10_up 76 = .ok (.goto 4, 3) := by decide +kernel
theorem dX10_up_79 : decode cX10_up 79 = .ok (.iconst 1, 1) := by decide +kernel
theorem dX10_up_80 : decode cX10_up 80 = .ok (.ireturn, 1) := by decide +kernel
set_option maxRecDepth 20000 in
theorem ggX10_wants_X10_isMonth : GoodIn wsX10_wants wsX10_isMonth := goodIn_r _ [6] (by decide +kernel) (by decide +kernel)
set_option maxRecDepth 20000 in
theorem gX10_wants_X10_isMonth : GoodIn wsX10_wants (va_wsS RX10 123 yX10_isMonth wsX10_isMonth) := goodIn_app (goodIn_of _ (by decide +kernel)) ggX10_wants_X10_isMonth
set_option maxRecDepth 20000 in
theorem ggX10_wants_X10_noShip : GoodIn wsX10_wants wsX10_noShip := goodIn_r _ [10, 1, 11, 12, 13, 14, 15, 16, 17, 18, 19, 20, 21, 22, 23, 24, 25, 26] (by decide +kernel) (by decide +kernel)
set_option maxRecDepth 20000 in
theorem gX10_wants_X10_noShip : GoodIn wsX10_wants (wsV RX10 129 RX10 yX10_noShip wsX10_noShip) := goodIn_app (goodIn_of _ (by decide +kernel)) ggX10_wants_X10_noShip
theorem dX10_wants_0 : decode cX10_wants 0 = .ok (.iload_n 1, 1) := by decide +kernel
theorem dX10_wants_1 : decode cX10_wants 1 = .ok (.invokestatic 123, 3) := by decide +kernel
theorem dX10_wants_4 : decode cX10_wants 4 = .ok (.ifCond .eq 13, 3) := by decide +kernel
theorem dX10_wants_7 : decode cX10_wants 7 = .ok (.iload_n 2, 1) := by decide +kernel
theorem dX10_wants_8 : decode cX10_wants 8 = .ok (.ifCond .lt 9, 3) := by decide +kernel
theorem dX10_wants_11 : decode cX10_wants 11 = .ok (.iload_n 2, 1) := by decide +kernel
theorem dX10_wants_12 : decode cX10_wants 12 = .ok (.bipush 7, 2) := by decide +kernel
theorem dX10_wants_14 : decode cX10_wants 14 = .ok (.if_icmp .le 6, 3) := by decide +kernel
theorem dX10_wants_17 : decode cX10_wants 17 = .ok (.bipush (-2), 2) := by decide +kernel
theorem dX10_wants_19 : decode cX10_wants 19 = .ok (.ireturn, 1) := by decide +kernel
theorem dX10_wants_20 : decode cX10_wants 20 = .ok (.aload_n 0, 1) := by decide +kernel
theorem dX10_wants_21 : decode cX10_wants 21 = .ok (.invokevirtual 129, 3) := by decide +kernel
theorem dX10_wants_24 : decode cX10_wants 24 = .ok (.ifCond .eq 6, 3) := by decide +kernel
theorem dX10_wants_27 : decode cX10_wants 27 = .ok (.bipush (-3), 2) := by decide +kernel
theorem dX10_wants_29 : decode cX10_wants 29 = .ok (.ireturn, 1) := by decide +kernel
theorem dX10_wants_30 : decode cX10_wants 30 = .ok (.aload_n 0, 1) := by decide +kernel
theorem dX10_wants_31 : decode cX10_wants 31 = .ok (.getfield 21, 3) := by decide +kernel
theorem dX10_wants_34 : decode cX10_wants 34 = .ok (.getfield 133, 3) := by decide +kernel
theorem dX10_wants_37 : decode cX10_wants 37 = .ok (.iload_n 1, 1) := by decide +kernel
theorem dX10_wants_38 : decode cX10_wants 38 = .ok (.iaload, 1) := by decide +kernel
theorem dX10_wants_39 : decode cX10_wants 39 = .ok (.istore_n 3, 1) := by decide +kernel
theorem dX10_wants_40 : decode cX10_wants 40 = .ok (.aload_n 0, 1) := by decide +kernel
theorem dX10_wants_41 : decode cX10_wants 41 = .ok (.getfield 21, 3) := by decide +kernel
theorem dX10_wants_44 : decode cX10_wants 44 = .ok (.getfield 133, 3) := by decide +kernel
theorem dX10_wants_47 : decode cX10_wants 47 = .ok (.iload_n 1, 1) := by decide +kernel
theorem dX10_wants_48 : decode cX10_wants 48 = .ok (.iload_n 2, 1) := by decide +kernel
theorem dX10_wants_49 : decode cX10_wants 49 = .ok (.iastore, 1) := by decide +kernel
theorem dX10_wants_50 : decode cX10_wants 50 = .ok (.iload_n 3, 1) := by decide +kernel
theorem dX10_wants_51 : decode cX10_wants 51 = .ok (.ireturn, 1) := by decide +kernel
set_option maxRecDepth 20000 in
theorem ggX10_law_X10_noShip : GoodIn wsX10_law wsX10_noShip := goodIn_r _ [7, 1, 8, 9, 10, 11, 12, 13, 14, 15, 16, 17, 18, 19, 20, 21, 22, 23] (by decide +kernel) (by decide +kernel)
set_option maxRecDepth 20000 in
theorem gX10_law_X10_noShip : GoodIn wsX10_law (wsV RX10 129 RX10 yX10_noShip wsX10_noShip) := goodIn_app (goodIn_of _ (by decide +kernel)) ggX10_law_X10_noShip
theorem dX10_law_0 : decode cX10_law 0 = .ok (.iload_n 1, 1) := by decide +kernel
theorem dX10_law_1 : decode cX10_law 1 = .ok (.ifCond .eq 11, 3) := by decide +kernel
theorem dX10_law_4 : decode cX10_law 4 = .ok (.iload_n 1, 1) := by decide +kernel
theorem dX10_law_5 : decode cX10_law 5 = .ok (.iconst 1, 1) := by decide +kernel
theorem dX10_law_6 : decode cX10_law 6 = .ok (.if_icmp .eq 6, 3) := by decide +kernel
theorem dX10_law_9 : decode cX10_law 9 = .ok (.bipush (-2), 2) := by decide +kernel
theorem dX10_law_11 : decode cX10_law 11 = .ok (.ireturn, 1) := by decide +kernel
theorem dX10_law_12 : decode cX10_law 12 = .ok (.aload_n 0, 1) := by decide +kernel
theorem dX10_law_13 : decode cX10_law 13 = .ok (.invokevirtual 129, 3) := by decide +kernel
theorem dX10_law_16 : decode cX10_law 16 = .ok (.ifCond .eq 6, 3) := by decide +kernel
theorem dX10_law_19 : decode cX10_law 19 = .ok (.bipush (-3), 2) := by decide +kernel
theorem dX10_law_21 : decode cX10_law 21 = .ok (.ireturn, 1) := by decide +kernel
theorem dX10_law_22 : decode cX10_law 22 = .ok (.aload_n 0, 1) := by decide +kernel
theorem dX10_law_23 : decode cX10_law 23 = .ok (.getfield 21, 3) := by decide +kernel
theorem dX10_law_26 : decode cX10_law 26 = .ok (.getfield 136, 3) := by decide +kernel
theorem dX10_law_29 : decode cX10_law 29 = .ok (.istore_n 2, 1) := by decide +kernel
theorem dX10_law_30 : decode cX10_law 30 = .ok (.aload_n 0, 1) := by decide +kernel
theorem dX10_law_31 : decode cX10_law 31 = .ok (.getfield 21, 3) := by decide +kernel
theorem dX10_law_34 : decode cX10_law 34 = .ok (.iload_n 1, 1) := by decide +kernel
theorem dX10_law_35 : decode cX10_law 35 = .ok (.putfield 136, 3) := by decide +kernel
theorem dX10_law_38 : decode cX10_law 38 = .ok (.iload_n 2, 1) := by decide +kernel
theorem dX10_law_39 : decode cX10_law 39 = .ok (.ireturn, 1) := by decide +kernel
set_option maxRecDepth 20000 in
theorem ggX10_note_X0_has : GoodIn wsX10_note wsX0_has := goodIn_r _ [7, 8, 25, 26, 27, 28, 29, 30, 31] (by decide +kernel) (by decide +kernel)
set_option maxRecDepth 20000 in
theorem gX10_note_X0_has : GoodIn wsX10_note (wsV RX10 120 RX0 yX0_has wsX0_has) := goodIn_app (goodIn_of _ (by decide +kernel)) ggX10_note_X0_has
set_option maxRecDepth 20000 in
theorem ggX10_note_X4_addNote : GoodIn wsX10_note wsX4_addNote := goodIn_r _ [13, 14, 15, 16, 32, 33, 34, 35, 36, 37, 38, 39] (by decide +kernel) (by decide +kernel)
set_option maxRecDepth 20000 in
theorem gX10_note_X4_addNote : GoodIn wsX10_note (wsV RX10 139 RX4 yX4_addNote wsX4_addNote) := goodIn_app (goodIn_of _ (by decide +kernel)) ggX10_note_X4_addNote
theorem dX10_note_0 : decode cX10_note 0 = .ok (.aload_n 0, 1) := by decide +kernel
theorem dX10_note_1 : decode cX10_note 1 = .ok (.getfield 21, 3) := by decide +kernel
theorem dX10_note_4 : decode cX10_note 4 = .ok (.iload_n 1, 1) := by decide +kernel
theorem dX10_note_5 : decode cX10_note 5 = .ok (.invokevirtual 120, 3) := by decide +kernel
theorem dX10_note_8 : decode cX10_note 8 = .ok (.ifCond .eq 19, 3) := by decide +kernel
theorem dX10_note_11 : decode cX10_note 11 = .ok (.aload_n 0, 1) := by decide +kernel
theorem dX10_note_12 : decode cX10_note 12 = .ok (.getfield 21, 3) := by decide +kernel
theorem dX10_note_15 : decode cX10_note 15 = .ok (.iload_n 2, 1) := by decide +kernel
theorem dX10_note_16 : decode cX10_note 16 = .ok (.invokevirtual 120, 3) := by decide +kernel
theorem dX10_note_19 : decode cX10_note 19 = .ok (.ifCond .eq 8, 3) := by decide +kernel
theorem dX10_note_22 : decode cX10_note 22 = .ok (.iload_n 1, 1) := by decide +kernel
theorem dX10_note_23 : decode cX10_note 23 = .ok (.iload_n 2, 1) := by decide +kernel
theorem dX10_note_24 : decode cX10_note 24 = .ok (.if_icmp .ne 5, 3) := by decide +kernel
theorem dX10_note_27 : decode cX10_note 27 = .ok (.iconst (-1), 1) := by decide +kernel
theorem dX10_note_28 : decode cX10_note 28 = .ok (.ireturn, 1) := by decide +kernel
theorem dX10_note_29 : decode cX10_note 29 = .ok (.aload_n 0, 1) := by decide +kernel
theorem dX10_note_30 : decode cX10_note 30 = .ok (.getfield 44, 3) := by decide +kernel
theorem dX10_note_33 : decode cX10_note 33 = .ok (.iload_n 1, 1) := by decide +kernel
theorem dX10_note_34 : decode cX10_note 34 = .ok (.iload_n 2, 1) := by decide +kernel
theorem dX10_note_35 : decode cX10_note 35 = .ok (.invokevirtual 139, 3) := by decide +kernel
theorem dX10_note_38 : decode cX10_note 38 = .ok (.ireturn, 1) := by decide +kernel
theorem dX10_tear_0 : decode cX10_tear 0 = .ok (.iload_n 1, 1) := by decide +kernel
theorem dX10_tear_1 : decode cX10_tear 1 = .ok (.ifCond .lt 14, 3) := by decide +kernel
theorem dX10_tear_4 : decode cX10_tear 4 = .ok (.iload_n 1, 1) := by decide +kernel
theorem dX10_tear_5 : decode cX10_tear 5 = .ok (.aload_n 0, 1) := by decide +kernel
theorem dX10_tear_6 : decode cX10_tear 6 = .ok (.getfield 44, 3) := by decide +kernel
theorem dX10_tear_9 : decode cX10_tear 9 = .ok (.getfield 143, 3) := by decide +kernel
theorem dX10_tear_12 : decode cX10_tear 12 = .ok (.if_icmp .le 6, 3) := by decide +kernel
theorem dX10_tear_15 : decode cX10_tear 15 = .ok (.bipush (-2), 2) := by decide +kernel
theorem dX10_tear_17 : decode cX10_tear 17 = .ok (.ireturn, 1) := by decide +kernel
theorem dX10_tear_18 : decode cX10_tear 18 = .ok (.aload_n 0, 1) := by decide +kernel
theorem dX10_tear_19 : decode cX10_tear 19 = .ok (.getfield 44, 3) := by decide +kernel
theorem dX10_tear_22 : decode cX10_tear 22 = .ok (.dup, 1) := by decide +kernel
theorem dX10_tear_23 : decode cX10_tear 23 = .ok (.getfield 143, 3) := by decide +kernel
theorem dX10_tear_26 : decode cX10_tear 26 = .ok (.iload_n 1, 1) := by decide +kernel
theorem dX10_tear_27 : decode cX10_tear 27 = .ok (.isub, 1) := by decide +kernel
theorem dX10_tear_28 : decode cX10_tear 28 = .ok (.putfield 143, 3) := by decide +kernel
theorem dX10_tear_31 : decode cX10_tear 31 = .ok (.aload_n 0, 1) := by decide +kernel
theorem dX10_tear_32 : decode cX10_tear 32 = .ok (.getfield 44, 3) := by decide +kernel
theorem dX10_tear_35 : decode cX10_tear 35 = .ok (.getfield 143, 3) := by decide +kernel
theorem dX10_tear_38 : decode cX10_tear 38 = .ok (.ireturn, 1) := by decide +kernel
set_option maxRecDepth 20000 in
theorem ggX10_awake_X10_isMonth : GoodIn wsX10_awake wsX10_isMonth := goodIn_r _ [6] (by decide +kernel) (by decide +kernel)
set_option maxRecDepth 20000 in
theorem gX10_awake_X10_isMonth : GoodIn wsX10_awake (va_wsS RX10 123 yX10_isMonth wsX10_isMonth) := goodIn_app (goodIn_of _ (by decide +kernel)) ggX10_awake_X10_isMonth
set_option maxRecDepth 20000 in
theorem ggX10_awake_X10_noShip : GoodIn wsX10_awake wsX10_noShip := goodIn_r _ [10, 1, 11, 12, 13, 14, 15, 16, 17, 18, 19, 20, 21, 22, 23, 24, 25, 26] (by decide +kernel) (by decide +kernel)
set_option maxRecDepth 20000 in
theorem gX10_awake_X10_noShip : GoodIn wsX10_awake (wsV RX10 129 RX10 yX10_noShip wsX10_noShip) := goodIn_app (goodIn_of _ (by decide +kernel)) ggX10_awake_X10_noShip
theorem dX10_awake_0 : decode cX10_awake 0 = .ok (.iload_n 1, 1) := by decide +kernel
theorem dX10_awake_1 : decode cX10_awake 1 = .ok (.invokestatic 123, 3) := by decide +kernel
theorem dX10_awake_4 : decode cX10_awake 4 = .ok (.ifCond .ne 6, 3) := by decide +kernel
theorem dX10_awake_7 : decode cX10_awake 7 = .ok (.bipush (-2), 2) := by decide +kernel
theorem dX10_awake_9 : decode cX10_awake 9 = .ok (.ireturn, 1) := by decide +kernel
theorem dX10_awake_10 : decode cX10_awake 10 = .ok (.aload_n 0, 1) := by decide +kernel
theorem dX10_awake_11 : decode cX10_awake 11 = .ok (.invokevirtual 129, 3) := by decide +kernel
theorem dX10_awake_14 : decode cX10_awake 14 = .ok (.ifCond .eq 8, 3) := by decide +kernel
theorem dX10_awake_17 : decode cX10_awake 17 = .ok (.bipush (-3), 2) := by decide +kernel
theorem dX10_awake_19 : decode cX10_awake 19 = .ok (.goto 12, 3) := by decide +kernel
theorem dX10_awake_22 : decode cX10_awake 22 = .ok (.aload_n 0, 1) := by decide +kernel
theorem dX10_awake_23 : decode cX10_awake 23 = .ok (.getfield 21, 3) := by decide +kernel
theorem dX10_awake_26 : decode cX10_awake 26 = .ok (.getfield 126, 3) := by decide +kernel
theorem dX10_awake_29 : decode cX10_awake 29 = .ok (.iload_n 1, 1) := by decide +kernel
theorem dX10_awake_30 : decode cX10_awake 30 = .ok (.iaload, 1) := by decide +kernel
theorem dX10_awake_31 : decode cX10_awake 31 = .ok (.ireturn, 1) := by decide +kernel
set_option maxRecDepth 20000 in
theorem ggX10_harm_X0_has : GoodIn wsX10_harm wsX0_has := goodIn_r _ [9, 10, 81, 82, 83, 84, 85, 86, 87] (by decide +kernel) (by decide +kernel)
set_option maxRecDepth 20000 in
theorem gX10_harm_X0_has : GoodIn wsX10_harm (wsV RX10 120 RX0 yX0_has wsX0_has) := goodIn_app (goodIn_of _ (by decide +kernel)) ggX10_harm_X0_has
set_option maxRecDepth 20000 in
theorem ggX10_harm_X10_isMonth : GoodIn wsX10_harm wsX10_isMonth := goodIn_r _ [14] (by decide +kernel) (by decide +kernel)
set_option maxRecDepth 20000 in
theorem gX10_harm_X10_isMonth : GoodIn wsX10_harm (va_wsS RX10 123 yX10_isMonth wsX10_isMonth) := goodIn_app (goodIn_of _ (by decide +kernel)) ggX10_harm_X10_isMonth
set_option maxRecDepth 20000 in
theorem ggX10_harm_X3_goTo : GoodIn wsX10_harm wsX3_goTo := goodIn_r _ [19, 20, 21, 22, 23, 24, 18, 25, 26, 27, 28, 29, 30, 31, 32, 33, 34, 35, 36, 37, 38, 39, 40, 41, 42, 43, 44, 45, 46, 13, 47, 48, 49, 50, 51, 52, 53, 54, 55, 56, 57, 58, 59, 60, 61, 62, 63, 64, 65, 66, 67, 68, 69, 70, 71, 72, 88, 89, 90, 91, 92, 81, 82, 83, 84, 85, 86, 87, 93, 94, 95, 96, 97, 98, 99, 100, 101] (by decide +kernel) (by decide +kernel)
set_option maxRecDepth 20000 in
theorem gX10_harm_X3_goTo : GoodIn wsX10_harm (wsV RX10 146 RX3 yX3_goTo wsX3_goTo) := goodIn_app (goodIn_of _ (by decide +kernel)) ggX10_harm_X3_goTo
theorem dX10_harm_0 : decode cX10_harm 0 = .ok (.aload_n 0, 1) := by decide +kernel
theorem dX10_harm_1 : decode cX10_harm 1 = .ok (.getfield 21, 3) := by decide +kernel
theorem dX10_harm_4 : decode cX10_harm 4 = .ok (.iload_n 1, 1) := by decide +kernel
theorem dX10_harm_5 : decode cX10_harm 5 = .ok (.invokevirtual 120, 3) := by decide +kernel
theorem dX10_harm_8 : decode cX10_harm 8 = .ok (.ifCond .ne 5, 3) := by decide +kernel
theorem dX10_harm_11 : decode cX10_harm 11 = .ok (.iconst (-1), 1) := by decide +kernel
theorem dX10_harm_12 : decode cX10_harm 12 = .ok (.ireturn, 1) := by decide +kernel
theorem dX10_harm_13 : decode cX10_harm 13 = .ok (.iload_n 2, 1) := by decide +kernel
theorem dX10_harm_14 : decode cX10_harm 14 = .ok (.invokestatic 123, 3) := by decide +kernel
theorem dX10_harm_17 : decode cX10_harm 17 = .ok (.ifCond .ne 6, 3) := by decide +kernel
theorem dX10_harm_20 : decode cX10_harm 20 = .ok (.bipush (-2), 2) := by decide +kernel
theorem dX10_harm_22 : decode cX10_harm 22 = .ok (.ireturn, 1) := by decide +kernel
theorem dX10_harm_23 : decode cX10_harm 23 = .ok (.aload_n 0, 1) := by decide +kernel
theorem dX10_harm_24 : decode cX10_harm 24 = .ok (.getfield 30, 3) := by decide +kernel
theorem dX10_harm_27 : decode cX10_harm 27 = .ok (.aload_n 0, 1) := by decide +kernel
theorem dX10_harm_28 : decode cX10_harm 28 = .ok (.getfield 21, 3) := by decide +kernel
theorem dX10_harm_31 : decode cX10_harm 31 = .ok (.getfield 126, 3) := by decide +kernel
theorem dX10_harm_34 : decode cX10_harm 34 = .ok (.iload_n 2, 1) := by decide +kernel
theorem dX10_harm_35 : decode cX10_harm 35 = .ok (.invokevirtual 146, 3) := by decide +kernel
theorem dX10_harm_38 : decode cX10_harm 38 = .ok (.aload_n 0, 1) := by decide +kernel
theorem dX10_harm_39 : decode cX10_harm 39 = .ok (.getfield 30, 3) := by decide +kernel
theorem dX10_harm_42 : decode cX10_harm 42 = .ok (.getfield 150, 3) := by decide +kernel
theorem dX10_harm_45 : decode cX10_harm 45 = .ok (.iload_n 1, 1) := by decide +kernel
theorem dX10_harm_46 : decode cX10_harm 46 = .ok (.iaload, 1) := by decide +kernel
theorem dX10_harm_47 : decode cX10_harm 47 = .ok (.ireturn, 1) := by decide +kernel
set_option maxRecDepth 20000 in
theorem ggX10_skills_X0_has : GoodIn wsX10_skills wsX0_has := goodIn_r _ [9, 10, 81, 82, 83, 84, 85, 86, 87] (by decide +kernel) (by decide +kernel)
set_option maxRecDepth 20000 in
theorem gX10_skills_X0_has : GoodIn wsX10_skills (wsV RX10 120 RX0 yX0_has wsX0_has) := goodIn_app (goodIn_of _ (by decide +kernel)) ggX10_skills_X0_has
set_option maxRecDepth 20000 in
theorem ggX10_skills_X10_isMonth : GoodIn wsX10_skills wsX10_isMonth := goodIn_r _ [14] (by decide +kernel) (by decide +kernel)
set_option maxRecDepth 20000 in
theorem gX10_skills_X10_isMonth : GoodIn wsX10_skills (va_wsS RX10 123 yX10_isMonth wsX10_isMonth) := goodIn_app (goodIn_of _ (by decide +kernel)) ggX10_skills_X10_isMonth
set_option maxRecDepth 20000 in
theorem ggX10_skills_X3_goTo : GoodIn wsX10_skills wsX3_goTo := goodIn_r _ [19, 20, 21, 22, 23, 24, 18, 25, 26, 27, 28, 29, 30, 31, 32, 33, 34, 35, 36, 37, 38, 39, 40, 41, 42, 43, 44, 45, 46, 13, 47, 48, 49, 50, 51, 52, 53, 54, 55, 56, 57, 58, 59, 60, 61, 62, 63, 64, 65, 66, 67, 68, 69, 70, 71, 72, 88, 89, 90, 91, 92, 81, 82, 83, 84, 85, 86, 87, 93, 94, 95, 96, 97, 98, 99, 100, 101] (by decide +kernel) (by decide +kernel)
set_option maxRecDepth 20000 in
theorem gX10_skills_X3_goTo : GoodIn wsX10_skills (wsV RX10 146 RX3 yX3_goTo wsX3_goTo) := goodIn_app (goodIn_of _ (by decide +kernel)) ggX10_skills_X3_goTo
theorem dX10_skills_0 : decode cX10_skills 0 = .ok (.aload_n 0, 1) := by decide +kernel
theorem dX10_skills_1 : decode cX10_skills 1 = .ok (.getfield 21, 3) := by decide +kernel
theorem dX10_skills_4 : decode cX10_skills 4 = .ok (.iload_n 1, 1) := by decide +kernel
theorem dX10_skills_5 : decode cX10_skills 5 = .ok (.invokevirtual 120, 3) := by decide +kernel
theorem dX10_skills_8 : decode cX10_skills 8 = .ok (.ifCond .ne 5, 3) := by decide +kernel
theorem dX10_skills_11 : decode cX10_skills 11 = .ok (.iconst (-1), 1) := by decide +kernel
theorem dX10_skills_12 : decode cX10_skills 12 = .ok (.ireturn, 1) := by decide +kernel
theorem dX10_skills_13 : decode cX10_skills 13 = .ok (.iload_n 2, 1) := by decide +kernel
theorem dX10_skills_14 : decode cX10_skills 14 = .ok (.invokestatic 123, 3) := by decide +kernel
theorem dX10_skills_17 : decode cX10_skills 17 = .ok (.ifCond .ne 6, 3) := by decide +kernel
theorem dX10_skills_20 : decode cX10_skills 20 = .ok (.bipush (-2), 2) := by decide +kernel
theorem dX10_skills_22 : decode cX10_skills 22 = .ok (.ireturn, 1) := by decide +kernel
theorem dX10_skills_23 : decode cX10_skills 23 = .ok (.aload_n 0, 1) := by decide +kernel
theorem dX10_skills_24 : decode cX10_skills 24 = .ok (.getfield 30, 3) := by decide +kernel
theorem dX10_skills_27 : decode cX10_skills 27 = .ok (.aload_n 0, 1) := by decide +kernel
theorem dX10_skills_28 : decode cX10_skills 28 = .ok (.getfield 21, 3) := by decide +kernel
theorem dX10_skills_31 : decode cX10_skills 31 = .ok (.getfield 126, 3) := by decide +kernel
theorem dX10_skills_34 : decode cX10_skills 34 = .ok (.iload_n 2, 1) := by decide +kernel
theorem dX10_skills_35 : decode cX10_skills 35 = .ok (.invokevirtual 146, 3) := by decide +kernel
theorem dX10_skills_38 : decode cX10_skills 38 = .ok (.aload_n 0, 1) := by decide +kernel
theorem dX10_skills_39 : decode cX10_skills 39 = .ok (.getfield 30, 3) := by decide +kernel
theorem dX10_skills_42 : decode cX10_skills 42 = .ok (.getfield 153, 3) := by decide +kernel
theorem dX10_skills_45 : decode cX10_skills 45 = .ok (.iload_n 1, 1) := by decide +kernel
theorem dX10_skills_46 : decode cX10_skills 46 = .ok (.iaload, 1) := by decide +kernel
theorem dX10_skills_47 : decode cX10_skills 47 = .ok (.ireturn, 1) := by decide +kernel
set_option maxRecDepth 20000 in
theorem ggX10_lacks_X10_isMonth : GoodIn wsX10_lacks wsX10_isMonth := goodIn_r _ [8] (by decide +kernel) (by decide +kernel)
set_option maxRecDepth 20000 in
theorem gX10_lacks_X10_isMonth : GoodIn wsX10_lacks (va_wsS RX10 123 yX10_isMonth wsX10_isMonth) := goodIn_app (goodIn_of _ (by decide +kernel)) ggX10_lacks_X10_isMonth
set_option maxRecDepth 20000 in
theorem ggX10_lacks_X10_noShip : GoodIn wsX10_lacks wsX10_noShip := goodIn_r _ [12, 2, 13, 72, 73, 74, 75, 76, 77, 78, 79, 80, 81, 82, 83, 84, 85, 86] (by decide +kernel) (by decide +kernel)
set_option maxRecDepth 20000 in
theorem gX10_lacks_X10_noShip : GoodIn wsX10_lacks (wsV RX10 129 RX10 yX10_noShip wsX10_noShip) := goodIn_app (goodIn_of _ (by decide +kernel)) ggX10_lacks_X10_noShip
set_option maxRecDepth 20000 in
theorem ggX10_lacks_X3_goTo : GoodIn wsX10_lacks wsX3_goTo := goodIn_r _ [18, 19, 20, 21, 22, 23, 17, 24, 25, 26, 27, 28, 29, 30, 31, 32, 33, 34, 35, 36, 37, 38, 39, 40, 41, 42, 43, 44, 45, 7, 46, 47, 48, 49, 50, 51, 52, 53, 54, 55, 56, 57, 58, 59, 60, 61, 62, 63, 64, 65, 66, 67, 68, 69, 70, 71, 87, 88, 89, 90, 91, 80, 81, 82, 83, 84, 85, 86, 92, 93, 94, 95, 96, 97, 98, 99, 100] (by decide +kernel) (by decide +kernel)
set_option maxRecDepth 20000 in
theorem gX10_lacks_X3_goTo : GoodIn wsX10_lacks (wsV RX10 146 RX3 yX3_goTo wsX3_goTo) := goodIn_app (goodIn_of _ (by decide +kernel)) ggX10_lacks_X3_goTo
theorem dX10_lacks_0 : decode cX10_lacks 0 = .ok (.iload_n 1, 1) := by decide +kernel
theorem dX10_lacks_1 : decode cX10_lacks 1 = .ok (.invokestatic 123, 3) := by decide +kernel
theorem dX10_lacks_4 : decode cX10_lacks 4 = .ok (.ifCond .ne 6, 3) := by decide +kernel
theorem dX10_lacks_7 : decode cX10_lacks 7 = .ok (.bipush (-2), 2) := by decide +kernel
theorem dX10_lacks_9 : decode cX10_lacks 9 = .ok (.ireturn, 1) := by decide +kernel
theorem dX10_lacks_10 : decode cX10_lacks 10 = .ok (.aload_n 0, 1) := by decide +kernel
theorem dX10_lacks_11 : decode cX10_lacks 11 = .ok (.invokevirtual 129, 3) := by decide +kernel
theorem dX10_lacks_14 : decode cX10_lacks 14 = .ok (.ifCond .eq 6, 3) := by decide +kernel
theorem dX10_lacks_17 : decode cX10_lacks 17 = .ok (.bipush (-3), 2) := by decide +kernel
theorem dX10_lacks_19 : decode cX10_lacks 19 = .ok (.ireturn, 1) := by decide +kernel
theorem dX10_lacks_20 : decode cX10_lacks 20 = .ok (.aload_n 0, 1) := by decide +kernel
theorem dX10_lacks_21 : decode cX10_lacks 21 = .ok (.getfield 30, 3) := by decide +kernel
theorem dX10_lacks_24 : decode cX10_lacks 24 = .ok (.aload_n 0, 1) := by decide +kernel
theorem dX10_lacks_25 : decode cX10_lacks 25 = .ok (.getfield 21, 3) := by decide +kernel
theorem dX10_lacks_28 : decode cX10_lacks 28 = .ok (.getfield 126, 3) := by decide +kernel
theorem dX10_lacks_31 : decode cX10_lacks 31 = .ok (.iload_n 1, 1) := by decide +kernel
theorem dX10_lacks_32 : decode cX10_lacks 32 = .ok (.invokevirtual 146, 3) := by decide +kernel
theorem dX10_lacks_35 : decode cX10_lacks 35 = .ok (.aload_n 0, 1) := by decide +kernel
theorem dX10_lacks_36 : decode cX10_lacks 36 = .ok (.getfield 30, 3) := by decide +kernel
theorem dX10_lacks_39 : decode cX10_lacks 39 = .ok (.getfield 156, 3) := by decide +kernel
theorem dX10_lacks_42 : decode cX10_lacks 42 = .ok (.ireturn, 1) := by decide +kernel
set_option maxRecDepth 20000 in
theorem ggX10_wrong_X10_noShip : GoodIn wsX10_wrong wsX10_noShip := goodIn_r _ [8, 2, 9, 74, 75, 76, 77, 78, 79, 80, 81, 82, 83, 84, 85, 86, 87, 88] (by decide +kernel) (by decide +kernel)
set_option maxRecDepth 20000 in
theorem gX10_wrong_X10_noShip : GoodIn wsX10_wrong (wsV RX10 129 RX10 yX10_noShip wsX10_noShip) := goodIn_app (goodIn_of _ (by decide +kernel)) ggX10_wrong_X10_noShip
set_option maxRecDepth 20000 in
theorem ggX10_wrong_X3_firstWrong : GoodIn wsX10_wrong wsX3_firstWrong := goodIn_r _ [14, 15, 16, 17, 18, 19, 20, 13, 21, 22, 23, 24, 25, 26, 27, 28, 29, 30, 31, 32, 33, 34, 35, 36, 37, 38, 39, 40, 41, 7, 42, 43, 44, 45, 46, 47, 48, 49, 50, 51, 52, 53, 54, 55, 56, 57, 58, 59, 60, 61, 62, 63, 64, 65, 66, 67, 68, 69, 70, 71, 72, 89, 90, 91, 92, 93, 82, 83, 84, 85, 86, 87, 88, 94, 95, 96, 97, 98, 99, 100, 101, 102] (by decide +kernel) (by decide +kernel)
set_option maxRecDepth 20000 in
theorem gX10_wrong_X3_firstWrong : GoodIn wsX10_wrong (wsV RX10 159 RX3 yX3_firstWrong wsX3_firstWrong) := goodIn_app (goodIn_of _ (by decide +kernel)) ggX10_wrong_X3_firstWrong
set_option maxRecDepth 20000 in
theorem ggX10_wrong_X3_whoIsSpent : GoodIn wsX10_wrong wsX3_whoIsSpent := goodIn_r _ [71, 15, 22, 23, 25, 72, 89, 90, 91, 92, 93, 82, 83, 84, 85, 86, 87, 88, 94, 95, 96, 97, 98, 99, 100, 101, 102] (by decide +kernel) (by decide +kernel)
set_option maxRecDepth 20000 in
theorem gX10_wrong_X3_whoIsSpent : GoodIn wsX10_wrong (wsV RX10 163 RX3 yX3_whoIsSpent wsX3_whoIsSpent) := goodIn_app (goodIn_of _ (by decide +kernel)) ggX10_wrong_X3_whoIsSpent
theorem dX10_wrong_0 : decode cX10_wrong 0 = .ok (.iload_n 1, 1) := by decide +kernel
theorem dX10_wrong_1 : decode cX10_wrong 1 = .ok (.ifCond .lt 8, 3) := by decide +kernel
theorem dX10_wrong_4 : decode cX10_wrong 4 = .ok (.iload_n 1, 1) := by decide +kernel
theorem dX10_wrong_5 : decode cX10_wrong 5 = .ok (.iconst 2, 1) := by decide +kernel
theorem dX10_wrong_6 : decode cX10_wrong 6 = .ok (.if_icmp .le 6, 3) := by decide +kernel
theorem dX10_wrong_9 : decode cX10_wrong 9 = .ok (.bipush (-2), 2) := by decide +kernel
theorem dX10_wrong_11 : decode cX10_wrong 11 = .ok (.ireturn, 1) := by decide +kernel
theorem dX10_wrong_12 : decode cX10_wrong 12 = .ok (.aload_n 0, 1) := by decide +kernel
theorem dX10_wrong_13 : decode cX10_wrong 13 = .ok (.invokevirtual 129, 3) := by decide +kernel
theorem dX10_wrong_16 : decode cX10_wrong 16 = .ok (.ifCond .eq 6, 3) := by decide +kernel
theorem dX10_wrong_19 : decode cX10_wrong 19 = .ok (.bipush (-3), 2) := by decide +kernel
theorem dX10_wrong_21 : decode cX10_wrong 21 = .ok (.ireturn, 1) := by decide +kernel
theorem dX10_wrong_22 : decode cX10_wrong 22 = .ok (.iload_n 1, 1) := by decide +kernel
theorem dX10_wrong_23 : decode cX10_wrong 23 = .ok (.ifCond .ne 22, 3) := by decide +kernel
theorem dX10_wrong_26 : decode cX10_wrong 26 = .ok (.aload_n 0, 1) := by decide +kernel
theorem dX10_wrong_27 : decode cX10_wrong 27 = .ok (.getfield 30, 3) := by decide +kernel
theorem dX10_wrong_30 : decode cX10_wrong 30 = .ok (.aload_n 0, 1) := by decide +kernel
theorem dX10_wrong_31 : decode cX10_wrong 31 = .ok (.getfield 21, 3) := by decide +kernel
theorem dX10_wrong_34 : decode cX10_wrong 34 = .ok (.getfield 126, 3) := by decide +kernel
theorem dX10_wrong_37 : decode cX10_wrong 37 = .ok (.bipush 12, 2) := by decide +kernel
theorem dX10_wrong_39 : decode cX10_wrong 39 = .ok (.iconst 1, 1) := by decide +kernel
theorem dX10_wrong_40 : decode cX10_wrong 40 = .ok (.iconst 0, 1) := by decide +kernel
theorem dX10_wrong_41 : decode cX10_wrong 41 = .ok (.invokevirtual 159, 3) := by decide +kernel
theorem dX10_wrong_44 : decode cX10_wrong 44 = .ok (.ireturn, 1) := by decide +kernel
theorem dX10_wrong_45 : decode cX10_wrong 45 = .ok (.aload_n 0, 1) := by decide +kernel
theorem dX10_wrong_46 : decode cX10_wrong 46 = .ok (.getfield 30, 3) := by decide +kernel
theorem dX10_wrong_49 : decode cX10_wrong 49 = .ok (.aload_n 0, 1) := by decide +kernel
theorem dX10_wrong_50 : decode cX10_wrong 50 = .ok (.getfield 21, 3) := by decide +kernel
theorem dX10_wrong_53 : decode cX10_wrong 53 = .ok (.getfield 126, 3) := by decide +kernel
theorem dX10_wrong_56 : decode cX10_wrong 56 = .ok (.bipush 12, 2) := by decide +kernel
theorem dX10_wrong_58 : decode cX10_wrong 58 = .ok (.iconst 0, 1) := by decide +kernel
theorem dX10_wrong_59 : decode cX10_wrong 59 = .ok (.iconst 1, 1) := by decide +kernel
theorem dX10_wrong_60 : decode cX10_wrong 60 = .ok (.invokevirtual 159, 3) := by decide +kernel
theorem dX10_wrong_63 : decode cX10_wrong 63 = .ok (.istore_n 2, 1) := by decide +kernel
theorem dX10_wrong_64 : decode cX10_wrong 64 = .ok (.iload_n 1, 1) := by decide +kernel
theorem dX10_wrong_65 : decode cX10_wrong 65 = .ok (.iconst 1, 1) := by decide +kernel
theorem dX10_wrong_66 : decode cX10_wrong 66 = .ok (.if_icmp .ne 7, 3) := by decide +kernel
theorem dX10_wrong_69 : decode cX10_wrong 69 = .ok (.iload_n 2, 1) := by decide +kernel
theorem dX10_wrong_70 : decode cX10_wrong 70 = .ok (.goto 10, 3) := by decide +kernel
theorem dX10_wrong_73 : decode cX10_wrong 73 = .ok (.aload_n 0, 1) := by decide +kernel
theorem dX10_wrong_74 : decode cX10_wrong 74 = .ok (.getfield 30, 3) := by decide +kernel
theorem dX10_wrong_77 : decode cX10_wrong 77 = .ok (.invokevirtual 163, 3) := by decide +kernel
theorem dX10_wrong_80 : decode cX10_wrong 80 = .ok (.ireturn, 1) := by decide +kernel
set_option maxRecDepth 20000 in
theorem ggX10_cover_X10_isMonth : GoodIn wsX10_cover wsX10_isMonth := goodIn_r _ [6] (by decide +kernel) (by decide +kernel)
set_option maxRecDepth 20000 in
theorem gX10_cover_X10_isMonth : GoodIn wsX10_cover (va_wsS RX10 123 yX10_isMonth wsX10_isMonth) := goodIn_app (goodIn_of _ (by decide +kernel)) ggX10_cover_X10_isMonth
set_option maxRecDepth 20000 in
theorem ggX10_cover_X10_noShip : GoodIn wsX10_cover wsX10_noShip := goodIn_r _ [10, 1, 11, 34, 35, 36, 37, 38, 39, 40, 41, 42, 43, 44, 45, 46, 47, 48] (by decide +kernel) (by decide +kernel)
set_option maxRecDepth 20000 in
theorem gX10_cover_X10_noShip : GoodIn wsX10_cover (wsV RX10 129 RX10 yX10_noShip wsX10_noShip) := goodIn_app (goodIn_of _ (by decide +kernel)) ggX10_cover_X10_noShip
set_option maxRecDepth 20000 in
theorem ggX10_cover_X0_fewestWith : GoodIn wsX10_cover wsX0_fewestWith := goodIn_r _ [16, 17, 18, 19, 15, 20, 21, 22, 23, 24, 25, 26, 27, 28, 29, 30, 31, 32, 33, 42, 43, 44, 45, 46, 47, 48] (by decide +kernel) (by decide +kernel)
set_option maxRecDepth 20000 in
theorem gX10_cover_X0_fewestWith : GoodIn wsX10_cover (wsV RX10 166 RX0 yX0_fewestWith wsX0_fewestWith) := goodIn_app (goodIn_of _ (by decide +kernel)) ggX10_cover_X0_fewestWith
theorem dX10_cover_0 : decode cX10_cover 0 = .ok (.iload_n 1, 1) := by decide +kernel
theorem dX10_cover_1 : decode cX10_cover 1 = .ok (.invokestatic 123, 3) := by decide +kernel
theorem dX10_cover_4 : decode cX10_cover 4 = .ok (.ifCond .ne 6, 3) := by decide +kernel
theorem dX10_cover_7 : decode cX10_cover 7 = .ok (.bipush (-2), 2) := by decide +kernel
theorem dX10_cover_9 : decode cX10_cover 9 = .ok (.ireturn, 1) := by decide +kernel
theorem dX10_cover_10 : decode cX10_cover 10 = .ok (.aload_n 0, 1) := by decide +kernel
theorem dX10_cover_11 : decode cX10_cover 11 = .ok (.invokevirtual 129, 3) := by decide +kernel
theorem dX10_cover_14 : decode cX10_cover 14 = .ok (.ifCond .eq 8, 3) := by decide +kernel
theorem dX10_cover_17 : decode cX10_cover 17 = .ok (.bipush (-3), 2) := by decide +kernel
theorem dX10_cover_19 : decode cX10_cover 19 = .ok (.goto 19, 3) := by decide +kernel
theorem dX10_cover_22 : decode cX10_cover 22 = .ok (.aload_n 0, 1) := by decide +kernel
theorem dX10_cover_23 : decode cX10_cover 23 = .ok (.getfield 21, 3) := by decide +kernel
theorem dX10_cover_26 : decode cX10_cover 26 = .ok (.aload_n 0, 1) := by decide +kernel
theorem dX10_cover_27 : decode cX10_cover 27 = .ok (.getfield 21, 3) := by decide +kernel
theorem dX10_cover_30 : decode cX10_cover 30 = .ok (.getfield 133, 3) := by decide +kernel
theorem dX10_cover_33 : decode cX10_cover 33 = .ok (.iload_n 1, 1) := by decide +kernel
theorem dX10_cover_34 : decode cX10_cover 34 = .ok (.iaload, 1) := by decide +kernel
theorem dX10_cover_35 : decode cX10_cover 35 = .ok (.invokevirtual 166, 3) := by decide +kernel
theorem dX10_cover_38 : decode cX10_cover 38 = .ok (.ireturn, 1) := by decide +kernel
set_option maxRecDepth 20000 in
theorem ggX10_least_X10_isMonth : GoodIn wsX10_least wsX10_isMonth := goodIn_r _ [5] (by decide +kernel) (by decide +kernel)
set_option maxRecDepth 20000 in
theorem gX10_least_X10_isMonth : GoodIn wsX10_least (va_wsS RX10 123 yX10_isMonth wsX10_isMonth) := goodIn_app (goodIn_of _ (by decide +kernel)) ggX10_least_X10_isMonth
set_option maxRecDepth 20000 in
theorem ggX10_least_X10_noShip : GoodIn wsX10_least wsX10_noShip := goodIn_r _ [9, 10, 11, 60, 61, 62, 63, 64, 65, 66, 67, 68, 69, 70, 71, 72, 73, 74] (by decide +kernel) (by decide +kernel)
set_option maxRecDepth 20000 in
theorem gX10_least_X10_noShip : GoodIn wsX10_least (wsV RX10 129 RX10 yX10_noShip wsX10_noShip) := goodIn_app (goodIn_of _ (by decide +kernel)) ggX10_least_X10_noShip
set_option maxRecDepth 20000 in
theorem ggX10_least_X6_reckon : GoodIn wsX10_least wsX6_reckon := goodIn_r _ [16, 17, 18, 19, 20, 21, 22, 23, 24, 25, 26, 27, 28, 15, 29, 30, 31, 32, 33, 34, 35, 36, 37, 38, 39, 40, 41, 42, 43, 44, 45, 46, 4, 47, 75, 76, 68, 69, 70, 71, 72, 73, 74] (by decide +kernel) (by decide +kernel)
set_option maxRecDepth 20000 in
theorem gX10_least_X6_reckon : GoodIn wsX10_least (wsV RX10 169 RX6 yX6_reckon wsX6_reckon) := goodIn_app (goodIn_of _ (by decide +kernel)) ggX10_least_X6_reckon
set_option maxRecDepth 20000 in
theorem ggX10_least_X6_leastHarm : GoodIn wsX10_least wsX6_leastHarm := goodIn_r _ [51, 18, 31, 75, 76] (by decide +kernel) (by decide +kernel)
set_option maxRecDepth 20000 in
theorem gX10_least_X6_leastHarm : GoodIn wsX10_least (wsV RX10 172 RX6 yX6_leastHarm wsX6_leastHarm) := goodIn_app (goodIn_of _ (by decide +kernel)) ggX10_least_X6_leastHarm
set_option maxRecDepth 20000 in
theorem ggX10_least_X6_whoIsUp : GoodIn wsX10_least wsX6_whoIsUp := goodIn_r _ [55, 56, 57, 58, 15, 59, 17, 41, 18, 20, 21, 22, 23, 24, 25, 26, 27, 28, 29, 30, 31, 32, 33, 34, 35, 36, 75, 76, 68, 69, 70, 71, 72, 73, 74] (by decide +kernel) (by decide +kernel)
set_option maxRecDepth 20000 in
theorem gX10_least_X6_whoIsUp : GoodIn wsX10_least (wsV RX10 175 RX6 yX6_whoIsUp wsX6_whoIsUp) := goodIn_app (goodIn_of _ (by decide +kernel)) ggX10_least_X6_whoIsUp
theorem dX10_least_0 : decode cX10_least 0 = .ok (.iload_n 1, 1) := by decide +kernel
theorem dX10_least_1 : decode cX10_least 1 = .ok (.iconst (-1), 1) := by decide +kernel
theorem dX10_least_2 : decode cX10_least 2 = .ok (.if_icmp .eq 13, 3) := by decide +kernel
theorem dX10_least_5 : decode cX10_least 5 = .ok (.iload_n 1, 1) := by decide +kernel
theorem dX10_least_6 : decode cX10_least 6 = .ok (.invokestatic 123, 3) := by decide +kernel
theorem dX10_least_9 : decode cX10_least 9 = .ok (.ifCond .ne 6, 3) := by decide +kernel
theorem dX10_least_12 : decode cX10_least 12 = .ok (.bipush (-2), 2) := by decide +kernel
theorem dX10_least_14 : decode cX10_least 14 = .ok (.ireturn, 1) := by decide +kernel
theorem dX10_least_15 : decode cX10_least 15 = .ok (.aload_n 0, 1) := by decide +kernel
theorem dX10_least_16 : decode cX10_least 16 = .ok (.invokevirtual 129, 3) := by decide +kernel
theorem dX10_least_19 : decode cX10_least 19 = .ok (.ifCond .eq 6, 3) := by decide +kernel
theorem dX10_least_22 : decode cX10_least 22 = .ok (.bipush (-3), 2) := by decide +kernel
theorem dX10_least_24 : decode cX10_least 24 = .ok (.ireturn, 1) := by decide +kernel
theorem dX10_least_25 : decode cX10_least 25 = .ok (.aload_n 0, 1) := by decide +kernel
theorem dX10_least_26 : decode cX10_least 26 = .ok (.getfield 37, 3) := by decide +kernel
theorem dX10_least_29 : decode cX10_least 29 = .ok (.invokevirtual 169, 3) := by decide +kernel
theorem dX10_least_32 : decode cX10_least 32 = .ok (.aload_n 0, 1) := by decide +kernel
theorem dX10_least_33 : decode cX10_least 33 = .ok (.getfield 37, 3) := by decide +kernel
theorem dX10_least_36 : decode cX10_least 36 = .ok (.invokevirtual 172, 3) := by decide +kernel
theorem dX10_least_39 : decode cX10_least 39 = .ok (.istore_n 2, 1) := by decide +kernel
theorem dX10_least_40 : decode cX10_least 40 = .ok (.iload_n 2, 1) := by decide +kernel
theorem dX10_least_41 : decode cX10_least 41 = .ok (.bipush (-9), 2) := by decide +kernel
theorem dX10_least_43 : decode cX10_least 43 = .ok (.if_icmp .eq 8, 3) := by decide +kernel
theorem dX10_least_46 : decode cX10_least 46 = .ok (.iload_n 1, 1) := by decide +kernel
theorem dX10_least_47 : decode cX10_least 47 = .ok (.iconst (-1), 1) := by decide +kernel
theorem dX10_least_48 : decode cX10_least 48 = .ok (.if_icmp .ne 7, 3) := by decide +kernel
theorem dX10_least_51 : decode cX10_least 51 = .ok (.iload_n 2, 1) := by decide +kernel
theorem dX10_least_52 : decode cX10_least 52 = .ok (.goto 11, 3) := by decide +kernel
theorem dX10_least_55 : decode cX10_least 55 = .ok (.aload_n 0, 1) := by decide +kernel
theorem dX10_least_56 : decode cX10_least 56 = .ok (.getfield 37, 3) := by decide +kernel
theorem dX10_least_59 : decode cX10_least 59 = .ok (.iload_n 1, 1) := by decide +kernel
theorem dX10_least_60 : decode cX10_least 60 = .ok (.invokevirtual 175, 3) := by decide +kernel
theorem dX10_least_63 : decode cX10_least 63 = .ok (.ireturn, 1) := by decide +kernel
set_option maxRecDepth 20000 in
theorem ggX10_judge_X10_sheetAt : GoodIn wsX10_judge wsX10_sheetAt := goodIn_r _ [14, 15, 128, 129, 130, 131, 132, 133, 134, 135] (by decide +kernel) (by decide +kernel)
set_option maxRecDepth 20000 in
theorem gX10_judge_X10_sheetAt : GoodIn wsX10_judge (wsV RX10 63 RX10 yX10_sheetAt wsX10_sheetAt) := goodIn_app (goodIn_of _ (by decide +kernel)) ggX10_judge_X10_sheetAt
set_option maxRecDepth 20000 in
theorem ggX10_judge_X10_refused : GoodIn wsX10_judge wsX10_refused := goodIn_r _ [19, 3, 128, 129, 130, 131, 132, 133, 134, 135] (by decide +kernel) (by decide +kernel)
set_option maxRecDepth 20000 in
theorem gX10_judge_X10_refused : GoodIn wsX10_judge (wsV RX10 67 RX10 yX10_refused wsX10_refused) := goodIn_app (goodIn_of _ (by decide +kernel)) ggX10_judge_X10_refused
set_option maxRecDepth 20000 in
theorem ggX10_judge_X10_isLane : GoodIn wsX10_judge wsX10_isLane := goodIn_r _ [22] (by decide +kernel) (by decide +kernel)
set_option maxRecDepth 20000 in
theorem gX10_judge_X10_isLane : GoodIn wsX10_judge (va_wsS RX10 71 yX10_isLane wsX10_isLane) := goodIn_app (goodIn_of _ (by decide +kernel)) ggX10_judge_X10_isLane
set_option maxRecDepth 20000 in
theorem ggX10_judge_X10_noShip : GoodIn wsX10_judge wsX10_noShip := goodIn_r _ [26, 1, 27, 128, 129, 130, 131, 132, 133, 134, 135, 139, 140, 141, 142, 143, 144, 145] (by decide +kernel) (by decide +kernel)
set_option maxRecDepth 20000 in
theorem gX10_judge_X10_noShip : GoodIn wsX10_judge (wsV RX10 129 RX10 yX10_noShip wsX10_noShip) := goodIn_app (goodIn_of _ (by decide +kernel)) ggX10_judge_X10_noShip
set_option maxRecDepth 20000 in
theorem ggX10_judge_X7_faultOfRange : GoodIn wsX10_judge wsX7_faultOfRange := goodIn_r _ [32, 33, 34, 35, 31, 36, 37, 38, 39, 40, 41, 42, 43, 44, 45, 46, 136, 137, 138] (by decide +kernel) (by decide +kernel)
set_option maxRecDepth 20000 in
theorem gX10_judge_X7_faultOfRange : GoodIn wsX10_judge (wsV RX10 75 RX7 yX7_faultOfRange wsX7_faultOfRange) := goodIn_app (goodIn_of _ (by decide +kernel)) ggX10_judge_X7_faultOfRange
set_option maxRecDepth 20000 in
theorem ggX10_judge_X10_failed : GoodIn wsX10_judge wsX10_failed := goodIn_r _ [50, 3, 128, 129, 130, 131, 132, 133, 134, 135] (by decide +kernel) (by decide +kernel)
set_option maxRecDepth 20000 in
theorem gX10_judge_X10_failed : GoodIn wsX10_judge (wsV RX10 79 RX10 yX10_failed wsX10_failed) := goodIn_app (goodIn_of _ (by decide +kernel)) ggX10_judge_X10_failed
set_option maxRecDepth 20000 in
theorem ggX10_judge_X0_areSets : GoodIn wsX10_judge wsX0_areSets := goodIn_r _ [55, 56, 57, 58, 54, 59, 60, 61, 62, 63, 64, 139, 140, 141, 142, 143, 144, 145] (by decide +kernel) (by decide +kernel)
set_option maxRecDepth 20000 in
theorem gX10_judge_X0_areSets : GoodIn wsX10_judge (wsV RX10 178 RX0 yX0_areSets wsX0_areSets) := goodIn_app (goodIn_of _ (by decide +kernel)) ggX10_judge_X0_areSets
set_option maxRecDepth 20000 in
theorem ggX10_judge_X3_firstWrong : GoodIn wsX10_judge wsX3_firstWrong := goodIn_r _ [69, 70, 71, 72, 73, 74, 75, 68, 76, 77, 78, 79, 80, 81, 82, 83, 84, 85, 86, 87, 88, 89, 90, 91, 92, 93, 94, 95, 96, 13, 97, 98, 99, 100, 101, 102, 103, 104, 105, 106, 107, 108, 109, 110, 111, 112, 113, 114, 115, 116, 117, 118, 119, 120, 121, 122, 123, 124, 125, 126, 127, 146, 147, 148, 149, 150, 139, 140, 141, 142, 143, 144, 145, 151, 152, 153, 154, 155, 156, 157, 158, 159] (by decide +kernel) (by decide +kernel)
set_option maxRecDepth 20000 in
theorem gX10_judge_X3_firstWrong : GoodIn wsX10_judge (wsV RX10 159 RX3 yX3_firstWrong wsX3_firstWrong) := goodIn_app (goodIn_of _ (by decide +kernel)) ggX10_judge_X3_firstWrong
theorem dX10_judge_0 : decode cX10_judge 0 = .ok (.aload_n 0, 1) := by decide +kernel
theorem dX10_judge_1 : decode cX10_judge 1 = .ok (.iload_n 1, 1) := by decide +kernel
theorem dX10_judge_2 : decode cX10_judge 2 = .ok (.invokevirtual 63, 3) := by decide +kernel
theorem dX10_judge_5 : decode cX10_judge 5 = .ok (.astore 5, 2) := by decide +kernel
theorem dX10_judge_7 : decode cX10_judge 7 = .ok (.aload 5, 2) := by decide +kernel
theorem dX10_judge_9 : decode cX10_judge 9 = .ok (.ifnonnull 9, 3) := by decide +kernel
theorem dX10_judge_12 : decode cX10_judge 12 = .ok (.aload_n 0, 1) := by decide +kernel
theorem dX10_judge_13 : decode cX10_judge 13 = .ok (.iconst (-1), 1) := by decide +kernel
theorem dX10_judge_14 : decode cX10_judge 14 = .ok (.invokevirtual 67, 3) := by decide +kernel
theorem dX10_judge_17 : decode cX10_judge 17 = .ok (.ireturn, 1) := by decide +kernel
theorem dX10_judge_18 : decode cX10_judge 18 = .ok (.iload_n 2, 1) := by decide +kernel
theorem dX10_judge_19 : decode cX10_judge 19 = .ok (.invokestatic 71, 3) := by decide +kernel
theorem dX10_judge_22 : decode cX10_judge 22 = .ok (.ifCond .ne 10, 3) := by decide +kernel
theorem dX10_judge_25 : decode cX10_judge 25 = .ok (.aload_n 0, 1) := by decide +kernel
theorem dX10_judge_26 : decode cX10_judge 26 = .ok (.bipush (-2), 2) := by decide +kernel
theorem dX10_judge_28 : decode cX10_judge 28 = .ok (.invokevirtual 67, 3) := by decide +kernel
theorem dX10_judge_31 : decode cX10_judge 31 = .ok (.ireturn, 1) := by decide +kernel
theorem dX10_judge_32 : decode cX10_judge 32 = .ok (.aload_n 0, 1) := by decide +kernel
theorem dX10_judge_33 : decode cX10_judge 33 = .ok (.invokevirtual 129, 3) := by decide +kernel
theorem dX10_judge_36 : decode cX10_judge 36 = .ok (.ifCond .eq 10, 3) := by decide +kernel
theorem dX10_judge_39 : decode cX10_judge 39 = .ok (.aload_n 0, 1) := by decide +kernel
theorem dX10_judge_40 : decode cX10_judge 40 = .ok (.bipush (-3), 2) := by decide +kernel
theorem dX10_judge_42 : decode cX10_judge 42 = .ok (.invokevirtual 67, 3) := by decide +kernel
theorem dX10_judge_45 : decode cX10_judge 45 = .ok (.ireturn, 1) := by decide +kernel
theorem dX10_judge_46 : decode cX10_judge 46 = .ok (.aload 5, 2) := by decide +kernel
theorem dX10_judge_48 : decode cX10_judge 48 = .ok (.iload_n 2, 1) := by decide +kernel
theorem dX10_judge_49 : decode cX10_judge 49 = .ok (.iload_n 3, 1) := by decide +kernel
theorem dX10_judge_50 : decode cX10_judge 50 = .ok (.iload 4, 2) := by decide +kernel
theorem dX10_judge_52 : decode cX10_judge 52 = .ok (.invokevirtual 75, 3) := by decide +kernel
theorem dX10_judge_55 : decode cX10_judge 55 = .ok (.istore 6, 2) := by decide +kernel
theorem dX10_judge_57 : decode cX10_judge 57 = .ok (.iload 6, 2) := by decide +kernel
theorem dX10_judge_59 : decode cX10_judge 59 = .ok (.ifCond .eq 10, 3) := by decide +kernel
theorem dX10_judge_62 : decode cX10_judge 62 = .ok (.aload_n 0, 1) := by decide +kernel
theorem dX10_judge_63 : decode cX10_judge 63 = .ok (.iload 6, 2) := by decide +kernel
theorem dX10_judge_65 : decode cX10_judge 65 = .ok (.invokevirtual 79, 3) := by decide +kernel
theorem dX10_judge_68 : decode cX10_judge 68 = .ok (.ireturn, 1) := by decide +kernel
theorem dX10_judge_69 : decode cX10_judge 69 = .ok (.iload 4, 2) := by decide +kernel
theorem dX10_judge_71 : decode cX10_judge 71 = .ok (.bipush 12, 2) := by decide +kernel
theorem dX10_judge_73 : decode cX10_judge 73 = .ok (.if_icmp .gt 21, 3) := by decide +kernel
theorem dX10_judge_76 : decode cX10_judge 76 = .ok (.aload_n 0, 1) := by decide +kernel
theorem dX10_judge_77 : decode cX10_judge 77 = .ok (.getfield 21, 3) := by decide +kernel
theorem dX10_judge_80 : decode cX10_judge 80 = .ok (.aload 5, 2) := by decide +kernel
theorem dX10_judge_82 : decode cX10_judge 82 = .ok (.getfield 82, 3) := by decide +kernel
theorem dX10_judge_85 : decode cX10_judge 85 = .ok (.iload_n 3, 1) := by decide +kernel
theorem dX10_judge_86 : decode cX10_judge 86 = .ok (.iload 4, 2) := by decide +kernel
theorem dX10_judge_88 : decode cX10_judge 88 = .ok (.invokevirtual 178, 3) := by decide +kernel
theorem dX10_judge_91 : decode cX10_judge 91 = .ok (.ifCond .ne 10, 3) := by decide +kernel
theorem dX10_judge_94 : decode cX10_judge 94 = .ok (.aload_n 0, 1) := by decide +kernel
theorem dX10_judge_95 : decode cX10_judge 95 = .ok (.bipush (-2), 2) := by decide +kernel
theorem dX10_judge_97 : decode cX10_judge 97 = .ok (.invokevirtual 67, 3) := by decide +kernel
theorem dX10_judge_100 : decode cX10_judge 100 = .ok (.ireturn, 1) := by decide +kernel
theorem dX10_judge_101 : decode cX10_judge 101 = .ok (.aload_n 0, 1) := by decide +kernel
theorem dX10_judge_102 : decode cX10_judge 102 = .ok (.iconst 0, 1) := by decide +kernel
theorem dX10_judge_103 : decode cX10_judge 103 = .ok (.putfield 59, 3) := by decide +kernel
theorem dX10_judge_106 : decode cX10_judge 106 = .ok (.aload 5, 2) := by decide +kernel
theorem dX10_judge_108 : decode cX10_judge 108 = .ok (.getfield 82, 3) := by decide +kernel
theorem dX10_judge_111 : decode cX10_judge 111 = .ok (.iload_n 3, 1) := by decide +kernel
theorem dX10_judge_112 : decode cX10_judge 112 = .ok (.aload_n 0, 1) := by decide +kernel
theorem dX10_judge_113 : decode cX10_judge 113 = .ok (.getfield 55, 3) := by decide +kernel
theorem dX10_judge_116 : decode cX10_judge 116 = .ok (.iconst 0, 1) := by decide +kernel
theorem dX10_judge_117 : decode cX10_judge 117 = .ok (.iload 4, 2) := by decide +kernel
theorem dX10_judge_119 : decode cX10_judge 119 = .ok (.invokestatic 182, 3) := by decide +kernel
theorem dX10_judge_122 : decode cX10_judge 122 = .ok (.aload_n 0, 1) := by decide +kernel
theorem dX10_judge_123 : decode cX10_judge 123 = .ok (.getfield 30, 3) := by decide +kernel
theorem dX10_judge_126 : decode cX10_judge 126 = .ok (.aload_n 0, 1) := by decide +kernel
theorem dX10_judge_127 : decode cX10_judge 127 = .ok (.getfield 55, 3) := by decide +kernel
theorem dX10_judge_130 : decode cX10_judge 130 = .ok (.iload 4, 2) := by decide +kernel
theorem dX10_judge_132 : decode cX10_judge 132 = .ok (.iconst 1, 1) := by decide +kernel
theorem dX10_judge_133 : decode cX10_judge 133 = .ok (.iconst 1, 1) := by decide +kernel
theorem dX10_judge_134 : decode cX10_judge 134 = .ok (.invokevirtual 159, 3) := by decide +kernel
theorem dX10_judge_137 : decode cX10_judge 137 = .ok (.ireturn, 1) := by decide +kernel
set_option maxRecDepth 20000 in
theorem ggX10_trades_X10_noShip : GoodIn wsX10_trades wsX10_noShip := goodIn_r _ [7, 1, 2, 82, 83, 84, 85, 86, 87, 88, 89, 90, 91, 92, 93, 94, 95, 96] (by decide +kernel) (by decide +kernel)
set_option maxRecDepth 20000 in
theorem gX10_trades_X10_noShip : GoodIn wsX10_trades (wsV RX10 129 RX10 yX10_noShip wsX10_noShip) := goodIn_app (goodIn_of _ (by decide +kernel)) ggX10_trades_X10_noShip
set_option maxRecDepth 20000 in
theorem ggX10_trades_X10_mayTrade : GoodIn wsX10_trades wsX10_mayTrade := goodIn_r _ [11, 12, 1, 13, 14, 15, 16, 6, 17, 18, 19, 20, 21, 22, 23, 24, 25, 26, 27, 28, 29, 30, 31, 32, 33, 34, 35, 36, 37, 38, 39, 40, 41, 42, 43, 44, 45, 46, 47, 48, 49, 50, 51, 52, 53, 54, 55, 56, 57, 58, 59, 60, 61, 62, 63, 64, 65, 66, 67, 68, 69, 70, 71, 72, 73, 74, 75, 76, 77, 78, 79, 80, 81, 82, 83, 84, 85, 86, 87, 88, 89, 90, 91, 92, 93, 94, 95, 96, 97, 98, 99, 100, 101, 102, 103, 104, 105, 106, 107, 108, 109, 110] (by decide +kernel) (by decide +kernel)
set_option maxRecDepth 20000 in
theorem gX10_trades_X10_mayTrade : GoodIn wsX10_trades (wsV RX10 188 RX10 yX10_mayTrade wsX10_mayTrade) := goodIn_app (goodIn_of _ (by decide +kernel)) ggX10_trades_X10_mayTrade
theorem dX10_trades_0 : decode cX10_trades 0 = .ok (.iload_n 1, 1) := by decide +kernel
theorem dX10_trades_1 : decode cX10_trades 1 = .ok (.iconst (-1), 1) := by decide +kernel
theorem dX10_trades_2 : decode cX10_trades 2 = .ok (.if_icmp .ge 5, 3) := by decide +kernel
theorem dX10_trades_5 : decode cX10_trades 5 = .ok (.iconst (-1), 1) := by decide +kernel
theorem dX10_trades_6 : decode cX10_trades 6 = .ok (.ireturn, 1) := by decide +kernel
theorem dX10_trades_7 : decode cX10_trades 7 = .ok (.aload_n 0, 1) := by decide +kernel
theorem dX10_trades_8 : decode cX10_trades 8 = .ok (.invokevirtual 129, 3) := by decide +kernel
theorem dX10_trades_11 : decode cX10_trades 11 = .ok (.ifCond .eq 6, 3) := by decide +kernel
theorem dX10_trades_14 : decode cX10_trades 14 = .ok (.bipush (-3), 2) := by decide +kernel
theorem dX10_trades_16 : decode cX10_trades 16 = .ok (.ireturn, 1) := by decide +kernel
theorem dX10_trades_17 : decode cX10_trades 17 = .ok (.iconst 0, 1) := by decide +kernel
theorem dX10_trades_18 : decode cX10_trades 18 = .ok (.istore_n 2, 1) := by decide +kernel
theorem dX10_trades_19 : decode cX10_trades 19 = .ok (.iconst 0, 1) := by decide +kernel
theorem dX10_trades_20 : decode cX10_trades 20 = .ok (.istore_n 3, 1) := by decide +kernel
theorem dX10_trades_21 : decode cX10_trades 21 = .ok (.iload_n 3, 1) := by decide +kernel
theorem dX10_trades_22 : decode cX10_trades 22 = .ok (.aload_n 0, 1) := by decide +kernel
theorem dX10_trades_23 : decode cX10_trades 23 = .ok (.getfield 21, 3) := by decide +kernel
theorem dX10_trades_26 : decode cX10_trades 26 = .ok (.getfield 98, 3) := by decide +kernel
theorem dX10_trades_29 : decode cX10_trades 29 = .ok (.if_icmp .ge 58, 3) := by decide +kernel
theorem dX10_trades_32 : decode cX10_trades 32 = .ok (.iload_n 3, 1) := by decide +kernel
theorem dX10_trades_33 : decode cX10_trades 33 = .ok (.iconst 1, 1) := by decide +kernel
theorem dX10_trades_34 : decode cX10_trades 34 = .ok (.iadd, 1) := by decide +kernel
theorem dX10_trades_35 : decode cX10_trades 35 = .ok (.istore 4, 2) := by decide +kernel
theorem dX10_trades_37 : decode cX10_trades 37 = .ok (.iload 4, 2) := by decide +kernel
theorem dX10_trades_39 : decode cX10_trades 39 = .ok (.aload_n 0, 1) := by decide +kernel
theorem dX10_trades_40 : decode cX10_trades 40 = .ok (.getfield 21, 3) := by decide +kernel
theorem dX10_trades_43 : decode cX10_trades 43 = .ok (.getfield 98, 3) := by decide +kernel
theorem dX10_trades_46 : decode cX10_trades 46 = .ok (.if_icmp .ge 35, 3) := by decide +kernel
theorem dX10_trades_49 : decode cX10_trades 49 = .ok (.aload_n 0, 1) := by decide +kernel
theorem dX10_trades_50 : decode cX10_trades 50 = .ok (.iload_n 3, 1) := by decide +kernel
theorem dX10_trades_51 : decode cX10_trades 51 = .ok (.iload 4, 2) := by decide +kernel
theorem dX10_trades_53 : decode cX10_trades 53 = .ok (.invokevirtual 188, 3) := by decide +kernel
theorem dX10_trades_56 : decode cX10_trades 56 = .ok (.ifCond .eq 19, 3) := by decide +kernel
theorem dX10_trades_59 : decode cX10_trades 59 = .ok (.iload_n 2, 1) := by decide +kernel
theorem dX10_trades_60 : decode cX10_trades 60 = .ok (.iload_n 1, 1) := by decide +kernel
theorem dX10_trades_61 : decode cX10_trades 61 = .ok (.if_icmp .ne 11, 3) := by decide +kernel
theorem dX10_trades_64 : decode cX10_trades 64 = .ok (.bipush 10, 2) := by decide +kernel
theorem dX10_trades_66 : decode cX10_trades 66 = .ok (.iload_n 3, 1) := by decide +kernel
theorem dX10_trades_67 : decode cX10_trades 67 = .ok (.imul, 1) := by decide +kernel
theorem dX10_trades_68 : decode cX10_trades 68 = .ok (.iload 4, 2) := by decide +kernel
theorem dX10_trades_70 : decode cX10_trades 70 = .ok (.iadd, 1) := by decide +kernel
theorem dX10_trades_71 : decode cX10_trades 71 = .ok (.ireturn, 1) := by decide +kernel
theorem dX10_trades_72 : decode cX10_trades 72 = .ok (.iinc 2 1, 3) := by decide +kernel
theorem dX10_trades_75 : decode cX10_trades 75 = .ok (.iinc 4 1, 3) := by decide +kernel
theorem dX10_trades_78 : decode cX10_trades 78 = .ok (.goto (-41), 3) := by decide +kernel
theorem dX10_trades_81 : decode cX10_trades 81 = .ok (.iinc 3 1, 3) := by decide +kernel
theorem dX10_trades_84 : decode cX10_trades 84 = .ok (.goto (-63), 3) := by decide +kernel
theorem dX10_trades_87 : decode cX10_trades 87 = .ok (.iload_n 1, 1) := by decide +kernel
theorem dX10_trades_88 : decode cX10_trades 88 = .ok (.iconst (-1), 1) := by decide +kernel
theorem dX10_trades_89 : decode cX10_trades 89 = .ok (.if_icmp .ne 7, 3) := by decide +kernel
theorem dX10_trades_92 : decode cX10_trades 92 = .ok (.iload_n 2, 1) := by decide +kernel
theorem dX10_trades_93 : decode cX10_trades 93 = .ok (.goto 5, 3) := by decide +kernel
theorem dX10_trades_96 : decode cX10_trades 96 = .ok (.bipush (-9), 2) := by decide +kernel
theorem dX10_trades_98 : decode cX10_trades 98 = .ok (.ireturn, 1) := by decide +kernel
set_option maxRecDepth 20000 in
theorem ggX10_knows_X0_has : GoodIn wsX10_knows wsX0_has := goodIn_r _ [8, 9, 41, 42, 43, 44, 45, 46, 47] (by decide +kernel) (by decide +kernel)
set_option maxRecDepth 20000 in
theorem gX10_knows_X0_has : GoodIn wsX10_knows (wsV RX10 120 RX0 yX0_has wsX0_has) := goodIn_app (goodIn_of _ (by decide +kernel)) ggX10_knows_X0_has
set_option maxRecDepth 20000 in
theorem ggX10_knows_X10_isMonth : GoodIn wsX10_knows wsX10_isMonth := goodIn_r _ [13] (by decide +kernel) (by decide +kernel)
set_option maxRecDepth 20000 in
theorem gX10_knows_X10_isMonth : GoodIn wsX10_knows (va_wsS RX10 123 yX10_isMonth wsX10_isMonth) := goodIn_app (goodIn_of _ (by decide +kernel)) ggX10_knows_X10_isMonth
set_option maxRecDepth 20000 in
theorem ggX10_knows_X4_spread : GoodIn wsX10_knows wsX4_spread := goodIn_r _ [18, 19, 20, 21, 22, 17, 23, 24, 25, 26, 27, 12, 28, 48, 49, 50, 51, 52, 53, 54, 55] (by decide +kernel) (by decide +kernel)
set_option maxRecDepth 20000 in
theorem gX10_knows_X4_spread : GoodIn wsX10_knows (wsV RX10 192 RX4 yX4_spread wsX4_spread) := goodIn_app (goodIn_of _ (by decide +kernel)) ggX10_knows_X4_spread
set_option maxRecDepth 20000 in
theorem ggX10_knows_X4_firstMonthOf : GoodIn wsX10_knows wsX4_firstMonthOf := goodIn_r _ [32, 19, 27, 12, 28, 48, 49, 50, 51, 52, 53, 54, 55] (by decide +kernel) (by decide +kernel)
set_option maxRecDepth 20000 in
theorem gX10_knows_X4_firstMonthOf : GoodIn wsX10_knows (wsV RX10 196 RX4 yX4_firstMonthOf wsX4_firstMonthOf) := goodIn_app (goodIn_of _ (by decide +kernel)) ggX10_knows_X4_firstMonthOf
theorem dX10_knows_0 : decode cX10_knows 0 = .ok (.aload_n 0, 1) := by decide +kernel
theorem dX10_knows_1 : decode cX10_knows 1 = .ok (.getfield 21, 3) := by decide +kernel
theorem dX10_knows_4 : decode cX10_knows 4 = .ok (.iload_n 1, 1) := by decide +kernel
theorem dX10_knows_5 : decode cX10_knows 5 = .ok (.invokevirtual 120, 3) := by decide +kernel
theorem dX10_knows_8 : decode cX10_knows 8 = .ok (.ifCond .eq 14, 3) := by decide +kernel
theorem dX10_knows_11 : decode cX10_knows 11 = .ok (.aload_n 0, 1) := by decide +kernel
theorem dX10_knows_12 : decode cX10_knows 12 = .ok (.getfield 21, 3) := by decide +kernel
theorem dX10_knows_15 : decode cX10_knows 15 = .ok (.iload_n 3, 1) := by decide +kernel
theorem dX10_knows_16 : decode cX10_knows 16 = .ok (.invokevirtual 120, 3) := by decide +kernel
theorem dX10_knows_19 : decode cX10_knows 19 = .ok (.ifCond .ne 5, 3) := by decide +kernel
theorem dX10_knows_22 : decode cX10_knows 22 = .ok (.iconst (-1), 1) := by decide +kernel
theorem dX10_knows_23 : decode cX10_knows 23 = .ok (.ireturn, 1) := by decide +kernel
theorem dX10_knows_24 : decode cX10_knows 24 = .ok (.iload_n 2, 1) := by decide +kernel
theorem dX10_knows_25 : decode cX10_knows 25 = .ok (.invokestatic 123, 3) := by decide +kernel
theorem dX10_knows_28 : decode cX10_knows 28 = .ok (.ifCond .ne 6, 3) := by decide +kernel
theorem dX10_knows_31 : decode cX10_knows 31 = .ok (.bipush (-2), 2) := by decide +kernel
theorem dX10_knows_33 : decode cX10_knows 33 = .ok (.ireturn, 1) := by decide +kernel
theorem dX10_knows_34 : decode cX10_knows 34 = .ok (.aload_n 0, 1) := by decide +kernel
theorem dX10_knows_35 : decode cX10_knows 35 = .ok (.getfield 44, 3) := by decide +kernel
theorem dX10_knows_38 : decode cX10_knows 38 = .ok (.iload_n 1, 1) := by decide +kernel
theorem dX10_knows_39 : decode cX10_knows 39 = .ok (.iload_n 2, 1) := by decide +kernel
theorem dX10_knows_40 : decode cX10_knows 40 = .ok (.aload_n 0, 1) := by decide +kernel
theorem dX10_knows_41 : decode cX10_knows 41 = .ok (.getfield 21, 3) := by decide +kernel
theorem dX10_knows_44 : decode cX10_knows 44 = .ok (.getfield 126, 3) := by decide +kernel
theorem dX10_knows_47 : decode cX10_knows 47 = .ok (.invokevirtual 192, 3) := by decide +kernel
theorem dX10_knows_50 : decode cX10_knows 50 = .ok (.aload_n 0, 1) := by decide +kernel
theorem dX10_knows_51 : decode cX10_knows 51 = .ok (.getfield 44, 3) := by decide +kernel
theorem dX10_knows_54 : decode cX10_knows 54 = .ok (.iload_n 3, 1) := by decide +kernel
theorem dX10_knows_55 : decode cX10_knows 55 = .ok (.invokevirtual 196, 3) := by decide +kernel
theorem dX10_knows_58 : decode cX10_knows 58 = .ok (.ireturn, 1) := by decide +kernel
set_option maxRecDepth 20000 in
theorem ggX10_kept_X0_has : GoodIn wsX10_kept wsX0_has := goodIn_r _ [9, 10, 46, 47, 48, 49, 50, 51, 52] (by decide +kernel) (by decide +kernel)
set_option maxRecDepth 20000 in
theorem gX10_kept_X0_has : GoodIn wsX10_kept (wsV RX10 120 RX0 yX0_has wsX0_has) := goodIn_app (goodIn_of _ (by decide +kernel)) ggX10_kept_X0_has
set_option maxRecDepth 20000 in
theorem ggX10_kept_X10_isMonth : GoodIn wsX10_kept wsX10_isMonth := goodIn_r _ [14] (by decide +kernel) (by decide +kernel)
set_option maxRecDepth 20000 in
theorem gX10_kept_X10_isMonth : GoodIn wsX10_kept (va_wsS RX10 123 yX10_isMonth wsX10_isMonth) := goodIn_app (goodIn_of _ (by decide +kernel)) ggX10_kept_X10_isMonth
set_option maxRecDepth 20000 in
theorem ggX10_kept_X4_spread : GoodIn wsX10_kept wsX4_spread := goodIn_r _ [19, 20, 21, 22, 23, 18, 24, 25, 26, 27, 28, 13, 29, 53, 54, 55, 56, 57, 58, 59, 60] (by decide +kernel) (by decide +kernel)
set_option maxRecDepth 20000 in
theorem gX10_kept_X4_spread : GoodIn wsX10_kept (wsV RX10 192 RX4 yX4_spread wsX4_spread) := goodIn_app (goodIn_of _ (by decide +kernel)) ggX10_kept_X4_spread
set_option maxRecDepth 20000 in
theorem ggX10_kept_X0_everybody : GoodIn wsX10_kept wsX0_everybody := goodIn_r _ [33, 34, 35, 36, 8, 37, 10, 46, 47, 48, 49, 50, 51, 52] (by decide +kernel) (by decide +kernel)
set_option maxRecDepth 20000 in
theorem gX10_kept_X0_everybody : GoodIn wsX10_kept (wsV RX10 199 RX0 yX0_everybody wsX0_everybody) := goodIn_app (goodIn_of _ (by decide +kernel)) ggX10_kept_X0_everybody
theorem dX10_kept_0 : decode cX10_kept 0 = .ok (.aload_n 0, 1) := by decide +kernel
theorem dX10_kept_1 : decode cX10_kept 1 = .ok (.getfield 21, 3) := by decide +kernel
theorem dX10_kept_4 : decode cX10_kept 4 = .ok (.iload_n 1, 1) := by decide +kernel
theorem dX10_kept_5 : decode cX10_kept 5 = .ok (.invokevirtual 120, 3) := by decide +kernel
theorem dX10_kept_8 : decode cX10_kept 8 = .ok (.ifCond .ne 5, 3) := by decide +kernel
theorem dX10_kept_11 : decode cX10_kept 11 = .ok (.iconst (-1), 1) := by decide +kernel
theorem dX10_kept_12 : decode cX10_kept 12 = .ok (.ireturn, 1) := by decide +kernel
theorem dX10_kept_13 : decode cX10_kept 13 = .ok (.iload_n 2, 1) := by decide +kernel
theorem dX10_kept_14 : decode cX10_kept 14 = .ok (.invokestatic 123, 3) := by decide +kernel
theorem dX10_kept_17 : decode cX10_kept 17 = .ok (.ifCond .ne 6, 3) := by decide +kernel
theorem dX10_kept_20 : decode cX10_kept 20 = .ok (.bipush (-2), 2) := by decide +kernel
theorem dX10_kept_22 : decode cX10_kept 22 = .ok (.ireturn, 1) := by decide +kernel
theorem dX10_kept_23 : decode cX10_kept 23 = .ok (.aload_n 0, 1) := by decide +kernel
theorem dX10_kept_24 : decode cX10_kept 24 = .ok (.getfield 44, 3) := by decide +kernel
theorem dX10_kept_27 : decode cX10_kept 27 = .ok (.iload_n 1, 1) := by decide +kernel
theorem dX10_kept_28 : decode cX10_kept 28 = .ok (.iload_n 2, 1) := by decide +kernel
theorem dX10_kept_29 : decode cX10_kept 29 = .ok (.aload_n 0, 1) := by decide +kernel
theorem dX10_kept_30 : decode cX10_kept 30 = .ok (.getfield 21, 3) := by decide +kernel
theorem dX10_kept_33 : decode cX10_kept 33 = .ok (.getfield 126, 3) := by decide +kernel
theorem dX10_kept_36 : decode cX10_kept 36 = .ok (.invokevirtual 192, 3) := by decide +kernel
theorem dX10_kept_39 : decode cX10_kept 39 = .ok (.aload_n 0, 1) := by decide +kernel
theorem dX10_kept_40 : decode cX10_kept 40 = .ok (.getfield 21, 3) := by decide +kernel
theorem dX10_kept_43 : decode cX10_kept 43 = .ok (.invokevirtual 199, 3) := by decide +kernel
theorem dX10_kept_46 : decode cX10_kept 46 = .ok (.aload_n 0, 1) := by decide +kernel
theorem dX10_kept_47 : decode cX10_kept 47 = .ok (.getfield 44, 3) := by decide +kernel
theorem dX10_kept_50 : decode cX10_kept 50 = .ok (.getfield 202, 3) := by decide +kernel
theorem dX10_kept_53 : decode cX10_kept 53 = .ok (.bipush 11, 2) := by decide +kernel
theorem dX10_kept_55 : decode cX10_kept 55 = .ok (.iaload, 1) := by decide +kernel
theorem dX10_kept_56 : decode cX10_kept 56 = .ok (.iconst (-1), 1) := by decide +kernel
theorem dX10_kept_57 : decode cX10_kept 57 = .ok (.ixor, 1) := by decide +kernel
theorem dX10_kept_58 : decode cX10_kept 58 = .ok (.iand, 1) := by decide +kernel
theorem dX10_kept_59 : decode cX10_kept 59 = .ok (.ireturn, 1) := by decide +kernel
set_option maxRecDepth 20000 in
theorem ggX10_reading_X0_has : GoodIn wsX10_reading wsX0_has := goodIn_r _ [7, 8, 30, 31, 32, 33, 34, 35, 36] (by decide +kernel) (by decide +kernel)
set_option maxRecDepth 20000 in
theorem gX10_reading_X0_has : GoodIn wsX10_reading (wsV RX10 120 RX0 yX0_has wsX0_has) := goodIn_app (goodIn_of _ (by decide +kernel)) ggX10_reading_X0_has
set_option maxRecDepth 20000 in
theorem ggX10_reading_X10_isMonth : GoodIn wsX10_reading wsX10_isMonth := goodIn_r _ [12] (by decide +kernel) (by decide +kernel)
set_option maxRecDepth 20000 in
theorem gX10_reading_X10_isMonth : GoodIn wsX10_reading (va_wsS RX10 123 yX10_isMonth wsX10_isMonth) := goodIn_app (goodIn_of _ (by decide +kernel)) ggX10_reading_X10_isMonth
set_option maxRecDepth 20000 in
theorem ggX10_reading_X4_addReading : GoodIn wsX10_reading wsX4_addReading := goodIn_r _ [17, 18, 19, 20, 21, 37, 38, 39, 40, 41, 42, 43, 44] (by decide +kernel) (by decide +kernel)
set_option maxRecDepth 20000 in
theorem gX10_reading_X4_addReading : GoodIn wsX10_reading (wsV RX10 205 RX4 yX4_addReading wsX4_addReading) := goodIn_app (goodIn_of _ (by decide +kernel)) ggX10_reading_X4_addReading
theorem dX10_reading_0 : decode cX10_reading 0 = .ok (.aload_n 0, 1) := by decide +kernel
theorem dX10_reading_1 : decode cX10_reading 1 = .ok (.getfield 21, 3) := by decide +kernel
theorem dX10_reading_4 : decode cX10_reading 4 = .ok (.iload_n 1, 1) := by decide +kernel
theorem dX10_reading_5 : decode cX10_reading 5 = .ok (.invokevirtual 120, 3) := by decide +kernel
theorem dX10_reading_8 : decode cX10_reading 8 = .ok (.ifCond .ne 5, 3) := by decide +kernel
theorem dX10_reading_11 : decode cX10_reading 11 = .ok (.iconst (-1), 1) := by decide +kernel
theorem dX10_reading_12 : decode cX10_reading 12 = .ok (.ireturn, 1) := by decide +kernel
theorem dX10_reading_13 : decode cX10_reading 13 = .ok (.iload_n 2, 1) := by decide +kernel
theorem dX10_reading_14 : decode cX10_reading 14 = .ok (.invokestatic 123, 3) := by decide +kernel
theorem dX10_reading_17 : decode cX10_reading 17 = .ok (.ifCond .ne 6, 3) := by decide +kernel
theorem dX10_reading_20 : decode cX10_reading 20 = .ok (.bipush (-2), 2) := by decide +kernel
theorem dX10_reading_22 : decode cX10_reading 22 = .ok (.ireturn, 1) := by decide +kernel
theorem dX10_reading_23 : decode cX10_reading 23 = .ok (.aload_n 0, 1) := by decide +kernel
theorem dX10_reading_24 : decode cX10_reading 24 = .ok (.getfield 44, 3) := by decide +kernel
theorem dX10_reading_27 : decode cX10_reading 27 = .ok (.iload_n 1, 1) := by decide +kernel
theorem dX10_reading_28 : decode cX10_reading 28 = .ok (.iload_n 2, 1) := by decide +kernel
theorem dX10_reading_29 : decode cX10_reading 29 = .ok (.iload_n 3, 1) := by decide +kernel
theorem dX10_reading_30 : decode cX10_reading 30 = .ok (.invokevirtual 205, 3) := by decide +kernel
theorem dX10_reading_33 : decode cX10_reading 33 = .ok (.ireturn, 1) := by decide +kernel
theorem dX10_back_0 : decode cX10_back 0 = .ok (.iload_n 1, 1) := by decide +kernel
theorem dX10_back_1 : decode cX10_back 1 = .ok (.ifCond .lt 14, 3) := by decide +kernel
theorem dX10_back_4 : decode cX10_back 4 = .ok (.iload_n 1, 1) := by decide +kernel
theorem dX10_back_5 : decode cX10_back 5 = .ok (.aload_n 0, 1) := by decide +kernel
theorem dX10_back_6 : decode cX10_back 6 = .ok (.getfield 44, 3) := by decide +kernel
theorem dX10_back_9 : decode cX10_back 9 = .ok (.getfield 209, 3) := by decide +kernel
theorem dX10_back_12 : decode cX10_back 12 = .ok (.if_icmp .le 6, 3) := by decide +kernel
theorem dX10_back_15 : decode cX10_back 15 = .ok (.bipush (-2), 2) := by decide +kernel
theorem dX10_back_17 : decode cX10_back 17 = .ok (.ireturn, 1) := by decide +kernel
theorem dX10_back_18 : decode cX10_back 18 = .ok (.aload_n 0, 1) := by decide +kernel
theorem dX10_back_19 : decode cX10_back 19 = .ok (.getfield 44, 3) := by decide +kernel
theorem dX10_back_22 : decode cX10_back 22 = .ok (.dup, 1) := by decide +kernel
theorem dX10_back_23 : decode cX10_back 23 = .ok (.getfield 209, 3) := by decide +kernel
theorem dX10_back_26 : decode cX10_back 26 = .ok (.iload_n 1, 1) := by decide +kernel
theorem dX10_back_27 : decode cX10_back 27 = .ok (.isub, 1) := by decide +kernel
theorem dX10_back_28 : decode cX10_back 28 = .ok (.putfield 209, 3) := by decide +kernel
theorem dX10_back_31 : decode cX10_back 31 = .ok (.aload_n 0, 1) := by decide +kernel
theorem dX10_back_32 : decode cX10_back 32 = .ok (.getfield 44, 3) := by decide +kernel
theorem dX10_back_35 : decode cX10_back 35 = .ok (.getfield 209, 3) := by decide +kernel
theorem dX10_back_38 : decode cX10_back 38 = .ok (.ireturn, 1) := by decide +kernel
set_option maxRecDepth 20000 in
theorem ggX10_began_X10_isMonth : GoodIn wsX10_began wsX10_isMonth := goodIn_r _ [8] (by decide +kernel) (by decide +kernel)
set_option maxRecDepth 20000 in
theorem gX10_began_X10_isMonth : GoodIn wsX10_began (va_wsS RX10 123 yX10_isMonth wsX10_isMonth) := goodIn_app (goodIn_of _ (by decide +kernel)) ggX10_began_X10_isMonth
set_option maxRecDepth 20000 in
theorem ggX10_began_X10_noShip : GoodIn wsX10_began wsX10_noShip := goodIn_r _ [12, 1, 2, 36, 37, 38, 39, 40, 41, 42, 43, 44, 45, 46, 47, 48, 49, 50] (by decide +kernel) (by decide +kernel)
set_option maxRecDepth 20000 in
theorem gX10_began_X10_noShip : GoodIn wsX10_began (wsV RX10 129 RX10 yX10_noShip wsX10_noShip) := goodIn_app (goodIn_of _ (by decide +kernel)) ggX10_began_X10_noShip
set_option maxRecDepth 20000 in
theorem ggX10_began_X4_spread : GoodIn wsX10_began wsX4_spread := goodIn_r _ [17, 18, 19, 20, 21, 16, 22, 23, 24, 25, 26, 7, 27, 51, 52, 53, 54, 55, 56, 57, 58] (by decide +kernel) (by decide +kernel)
set_option maxRecDepth 20000 in
theorem gX10_began_X4_spread : GoodIn wsX10_began (wsV RX10 192 RX4 yX4_spread wsX4_spread) := goodIn_app (goodIn_of _ (by decide +kernel)) ggX10_began_X4_spread
set_option maxRecDepth 20000 in
theorem ggX10_began_X4_makesReadingsSo : GoodIn wsX10_began wsX4_makesReadingsSo := goodIn_r _ [31, 32, 18, 33, 34, 35, 51, 52, 53, 54, 55, 56, 57, 58] (by decide +kernel) (by decide +kernel)
set_option maxRecDepth 20000 in
theorem gX10_began_X4_makesReadingsSo : GoodIn wsX10_began (wsV RX10 212 RX4 yX4_makesReadingsSo wsX4_makesReadingsSo) := goodIn_app (goodIn_of _ (by decide +kernel)) ggX10_began_X4_makesReadingsSo
theorem dX10_began_0 : decode cX10_began 0 = .ok (.iload_n 1, 1) := by decide +kernel
theorem dX10_began_1 : decode cX10_began 1 = .ok (.invokestatic 123, 3) := by decide +kernel
theorem dX10_began_4 : decode cX10_began 4 = .ok (.ifCond .ne 6, 3) := by decide +kernel
theorem dX10_began_7 : decode cX10_began 7 = .ok (.bipush (-2), 2) := by decide +kernel
theorem dX10_began_9 : decode cX10_began 9 = .ok (.ireturn, 1) := by decide +kernel
theorem dX10_began_10 : decode cX10_began 10 = .ok (.aload_n 0, 1) := by decide +kernel
theorem dX10_began_11 : decode cX10_began 11 = .ok (.invokevirtual 129, 3) := by decide +kernel
theorem dX10_began_14 : decode cX10_began 14 = .ok (.ifCond .eq 6, 3) := by decide +kernel
theorem dX10_began_17 : decode cX10_began 17 = .ok (.bipush (-3), 2) := by decide +kernel
theorem dX10_began_19 : decode cX10_began 19 = .ok (.ireturn, 1) := by decide +kernel
theorem dX10_began_20 : decode cX10_began 20 = .ok (.iconst 0, 1) := by decide +kernel
theorem dX10_began_21 : decode cX10_began 21 = .ok (.istore_n 2, 1) := by decide +kernel
theorem dX10_began_22 : decode cX10_began 22 = .ok (.iconst 0, 1) := by decide +kernel
theorem dX10_began_23 : decode cX10_began 23 = .ok (.istore_n 3, 1) := by decide +kernel
theorem dX10_began_24 : decode cX10_began 24 = .ok (.iload_n 3, 1) := by decide +kernel
theorem dX10_began_25 : decode cX10_began 25 = .ok (.aload_n 0, 1) := by decide +kernel
theorem dX10_began_26 : decode cX10_began 26 = .ok (.getfield 21, 3) := by decide +kernel
theorem dX10_began_29 : decode cX10_began 29 = .ok (.getfield 98, 3) := by decide +kernel
theorem dX10_began_32 : decode cX10_began 32 = .ok (.if_icmp .ge 41, 3) := by decide +kernel
theorem dX10_began_35 : decode cX10_began 35 = .ok (.aload_n 0, 1) := by decide +kernel
theorem dX10_began_36 : decode cX10_began 36 = .ok (.getfield 44, 3) := by decide +kernel
theorem dX10_began_39 : decode cX10_began 39 = .ok (.iload_n 3, 1) := by decide +kernel
theorem dX10_began_40 : decode cX10_began 40 = .ok (.iload_n 1, 1) := by decide +kernel
theorem dX10_began_41 : decode cX10_began 41 = .ok (.aload_n 0, 1) := by decide +kernel
theorem dX10_began_42 : decode cX10_began 42 = .ok (.getfield 21, 3) := by decide +kernel
theorem dX10_began_45 : decode cX10_began 45 = .ok (.getfield 126, 3) := by decide +kernel
theorem dX10_began_48 : decode cX10_began 48 = .ok (.invokevirtual 192, 3) := by decide +kernel
theorem dX10_began_51 : decode cX10_began 51 = .ok (.aload_n 0, 1) := by decide +kernel
theorem dX10_began_52 : decode cX10_began 52 = .ok (.getfield 44, 3) := by decide +kernel
theorem dX10_began_55 : decode cX10_began 55 = .ok (.invokevirtual 212, 3) := by decide +kernel
theorem dX10_began_58 : decode cX10_began 58 = .ok (.ifCond .eq 9, 3) := by decide +kernel
theorem dX10_began_61 : decode cX10_began 61 = .ok (.iload_n 2, 1) := by decide +kernel
theorem dX10_began_62 : decode cX10_began 62 = .ok (.iconst 1, 1) := by decide +kernel
theorem dX10_began_63 : decode cX10_began 63 = .ok (.iload_n 3, 1) := by decide +kernel
theorem dX10_began_64 : decode cX10_began 64 = .ok (.ishl, 1) := by decide +kernel
theorem dX10_began_65 : decode cX10_began 65 = .ok (.ior, 1) := by decide +kernel
theorem dX10_began_66 : decode cX10_began 66 = .ok (.istore_n 2, 1) := by decide +kernel
theorem dX10_began_67 : decode cX10_began 67 = .ok (.iinc 3 1, 3) := by decide +kernel
theorem dX10_began_70 : decode cX10_began 70 = .ok (.goto (-46), 3) := by decide +kernel
theorem dX10_began_73 : decode cX10_began 73 = .ok (.iload_n 2, 1) := by decide +kernel
theorem dX10_began_74 : decode cX10_began 74 = .ok (.ireturn, 1) := by decide +kernel
set_option maxRecDepth 20000 in
theorem ggX10_woken_X0_has : GoodIn wsX10_woken wsX0_has := goodIn_r _ [14, 15, 51, 52, 53, 54, 55, 56, 57] (by decide +kernel) (by decide +kernel)
set_option maxRecDepth 20000 in
theorem gX10_woken_X0_has : GoodIn wsX10_woken (wsV RX10 120 RX0 yX0_has wsX0_has) := goodIn_app (goodIn_of _ (by decide +kernel)) ggX10_woken_X0_has
set_option maxRecDepth 20000 in
theorem ggX10_woken_X10_isMonth : GoodIn wsX10_woken wsX10_isMonth := goodIn_r _ [19] (by decide +kernel) (by decide +kernel)
set_option maxRecDepth 20000 in
theorem gX10_woken_X10_isMonth : GoodIn wsX10_woken (va_wsS RX10 123 yX10_isMonth wsX10_isMonth) := goodIn_app (goodIn_of _ (by decide +kernel)) ggX10_woken_X10_isMonth
set_option maxRecDepth 20000 in
theorem ggX10_woken_X4_spread : GoodIn wsX10_woken wsX4_spread := goodIn_r _ [24, 25, 26, 27, 28, 23, 29, 30, 31, 32, 33, 18, 34, 58, 59, 60, 61, 62, 63, 64, 65] (by decide +kernel) (by decide +kernel)
set_option maxRecDepth 20000 in
theorem gX10_woken_X4_spread : GoodIn wsX10_woken (wsV RX10 192 RX4 yX4_spread wsX4_spread) := goodIn_app (goodIn_of _ (by decide +kernel)) ggX10_woken_X4_spread
set_option maxRecDepth 20000 in
theorem ggX10_woken_X4_makesReadingsSo : GoodIn wsX10_woken wsX4_makesReadingsSo := goodIn_r _ [38, 39, 25, 40, 41, 42, 58, 59, 60, 61, 62, 63, 64, 65] (by decide +kernel) (by decide +kernel)
set_option maxRecDepth 20000 in
theorem gX10_woken_X4_makesReadingsSo : GoodIn wsX10_woken (wsV RX10 212 RX4 yX4_makesReadingsSo wsX4_makesReadingsSo) := goodIn_app (goodIn_of _ (by decide +kernel)) ggX10_woken_X4_makesReadingsSo
theorem dX10_woken_0 : decode cX10_woken 0 = .ok (.aload_n 0, 1) := by decide +kernel
theorem dX10_woken_1 : decode cX10_woken 1 = .ok (.getfield 21, 3) := by decide +kernel
theorem dX10_woken_4 : decode cX10_woken 4 = .ok (.iload_n 1, 1) := by decide +kernel
theorem dX10_woken_5 : decode cX10_woken 5 = .ok (.invokevirtual 120, 3) := by decide +kernel
theorem dX10_woken_8 : decode cX10_woken 8 = .ok (.ifCond .ne 5, 3) := by decide +kernel
theorem dX10_woken_11 : decode cX10_woken 11 = .ok (.iconst (-1), 1) := by decide +kernel
theorem dX10_woken_12 : decode cX10_woken 12 = .ok (.ireturn, 1) := by decide +kernel
theorem dX10_woken_13 : decode cX10_woken 13 = .ok (.iload_n 2, 1) := by decide +kernel
theorem dX10_woken_14 : decode cX10_woken 14 = .ok (.invokestatic 123, 3) := by decide +kernel
theorem dX10_woken_17 : decode cX10_woken 17 = .ok (.ifCond .eq 10, 3) := by decide +kernel
theorem dX10_woken_20 : decode cX10_woken 20 = .ok (.iload_n 3, 1) := by decide +kernel
theorem dX10_woken_21 : decode cX10_woken 21 = .ok (.invokestatic 123, 3) := by decide +kernel
theorem dX10_woken_24 : decode cX10_woken 24 = .ok (.ifCond .ne 6, 3) := by decide +kernel
theorem dX10_woken_27 : decode cX10_woken 27 = .ok (.bipush (-2), 2) := by decide +kernel
theorem dX10_woken_29 : decode cX10_woken 29 = .ok (.ireturn, 1) := by decide +kernel
theorem dX10_woken_30 : decode cX10_woken 30 = .ok (.aload_n 0, 1) := by decide +kernel
theorem dX10_woken_31 : decode cX10_woken 31 = .ok (.getfield 21, 3) := by decide +kernel
theorem dX10_woken_34 : decode cX10_woken 34 = .ok (.getfield 126, 3) := by decide +kernel
theorem dX10_woken_37 : decode cX10_woken 37 = .ok (.iconst 0, 1) := by decide +kernel
theorem dX10_woken_38 : decode cX10_woken 38 = .ok (.aload_n 0, 1) := by decide +kernel
theorem dX10_woken_39 : decode cX10_woken 39 = .ok (.getfield 55, 3) := by decide +kernel
theorem dX10_woken_42 : decode cX10_woken 42 = .ok (.iconst 0, 1) := by decide +kernel
theorem dX10_woken_43 : decode cX10_woken 43 = .ok (.bipush 12, 2) := by decide +kernel
theorem dX10_woken_45 : decode cX10_woken 45 = .ok (.invokestatic 182, 3) := by decide +kernel
theorem dX10_woken_48 : decode cX10_woken 48 = .ok (.iconst 0, 1) := by decide +kernel
theorem dX10_woken_49 : decode cX10_woken 49 = .ok (.istore 4, 2) := by decide +kernel
theorem dX10_woken_51 : decode cX10_woken 51 = .ok (.iconst 0, 1) := by decide +kernel
theorem dX10_woken_52 : decode cX10_woken 52 = .ok (.istore 5, 2) := by decide +kernel
theorem dX10_woken_54 : decode cX10_woken 54 = .ok (.iload 5, 2) := by decide +kernel
theorem dX10_woken_56 : decode cX10_woken 56 = .ok (.aload_n 0, 1) := by decide +kernel
theorem dX10_woken_57 : decode cX10_woken 57 = .ok (.getfield 21, 3) := by decide +kernel
theorem dX10_woken_60 : decode cX10_woken 60 = .ok (.getfield 98, 3) := by decide +kernel
theorem dX10_woken_63 : decode cX10_woken 63 = .ok (.if_icmp .ge 61, 3) := by decide +kernel
theorem dX10_woken_66 : decode cX10_woken 66 = .ok (.aload_n 0, 1) := by decide +kernel
theorem dX10_woken_67 : decode cX10_woken 67 = .ok (.getfield 55, 3) := by decide +kernel
theorem dX10_woken_70 : decode cX10_woken 70 = .ok (.iload_n 3, 1) := by decide +kernel
theorem dX10_woken_71 : decode cX10_woken 71 = .ok (.aload_n 0, 1) := by decide +kernel
theorem dX10_woken_72 : decode cX10_woken 72 = .ok (.getfield 21, 3) := by decide +kernel
theorem dX10_woken_75 : decode cX10_woken 75 = .ok (.getfield 126, 3) := by decide +kernel
theorem dX10_woken_78 : decode cX10_woken 78 = .ok (.iload_n 3, 1) := by decide +kernel
theorem dX10_woken_79 : decode cX10_woken 79 = .ok (.iaload, 1) := by decide +kernel
theorem dX10_woken_80 : decode cX10_woken 80 = .ok (.iconst 1, 1) := by decide +kernel
theorem dX10_woken_81 : decode cX10_woken 81 = .ok (.iload 5, 2) := by decide +kernel
theorem dX10_woken_83 : decode cX10_woken 83 = .ok (.ishl, 1) := by decide +kernel
theorem dX10_woken_84 : decode cX10_woken 84 = .ok (.ior, 1) := by decide +kernel
theorem dX10_woken_85 : decode cX10_woken 85 = .ok (.iastore, 1) := by decide +kernel
theorem dX10_woken_86 : decode cX10_woken 86 = .ok (.aload_n 0, 1) := by decide +kernel
theorem dX10_woken_87 : decode cX10_woken 87 = .ok (.getfield 44, 3) := by decide +kernel
theorem dX10_woken_90 : decode cX10_woken 90 = .ok (.iload_n 1, 1) := by decide +kernel
theorem dX10_woken_91 : decode cX10_woken 91 = .ok (.iload_n 2, 1) := by decide +kernel
theorem dX10_woken_92 : decode cX10_woken 92 = .ok (.aload_n 0, 1) := by decide +kernel
theorem dX10_woken_93 : decode cX10_woken 93 = .ok (.getfield 55, 3) := by decide +kernel
theorem dX10_woken_96 : decode cX10_woken 96 = .ok (.invokevirtual 192, 3) := by decide +kernel
theorem dX10_woken_99 : decode cX10_woken 99 = .ok (.aload_n 0, 1) := by decide +kernel
theorem dX10_woken_100 : decode cX10_woken 100 = .ok (.getfield 44, 3) := by decide +kernel
theorem dX10_woken_103 : decode cX10_woken 103 = .ok (.invokevirtual 212, 3) := by decide +kernel
theorem dX10_woken_106 : decode cX10_woken 106 = .ok (.ifCond .eq 12, 3) := by decide +kernel
theorem dX10_woken_109 : decode cX10_woken 109 = .ok (.iload 4, 2) := by decide +kernel
theorem dX10_woken_111 : decode cX10_woken 111 = .ok (.iconst 1, 1) := by decide +kernel
theorem dX10_woken_112 : decode cX10_woken 112 = .ok (.iload 5, 2) := by decide +kernel
theorem dX10_woken_114 : decode cX10_woken 114 = .ok (.ishl, 1) := by decide +kernel
theorem dX10_woken_115 : decode cX10_woken 115 = .ok (.ior, 1) := by decide +kernel
theorem dX10_woken_116 : decode cX10_woken 116 = .ok (.istore 4, 2) := by decide +kernel
theorem dX10_woken_118 : decode cX10_woken 118 = .ok (.iinc 5 1, 3) := by decide +kernel
theorem dX10_woken_121 : decode cX10_woken 121 = .ok (.goto (-67), 3) := by decide +kernel
theorem dX10_woken_124 : decode cX10_woken 124 = .ok (.iload 4, 2) := by decide +kernel
theorem dX10_woken_126 : decode cX10_woken 126 = .ok (.ireturn, 1) := by decide +kernel
set_option maxRecDepth 20000 in
theorem ggX10_odds_X10_isMonth : GoodIn wsX10_odds wsX10_isMonth := goodIn_r _ [6] (by decide +kernel) (by decide +kernel)
set_option maxRecDepth 20000 in
theorem gX10_odds_X10_isMonth : GoodIn wsX10_odds (va_wsS RX10 123 yX10_isMonth wsX10_isMonth) := goodIn_app (goodIn_of _ (by decide +kernel)) ggX10_odds_X10_isMonth
set_option maxRecDepth 20000 in
theorem ggX10_odds_X10_noShip : GoodIn wsX10_odds wsX10_noShip := goodIn_r _ [10, 2, 11, 88, 89, 90, 91, 92, 93, 94, 95, 96, 97, 98, 99, 100, 101, 102] (by decide +kernel) (by decide +kernel)
set_option maxRecDepth 20000 in
theorem gX10_odds_X10_noShip : GoodIn wsX10_odds (wsV RX10 129 RX10 yX10_noShip wsX10_noShip) := goodIn_app (goodIn_of _ (by decide +kernel)) ggX10_odds_X10_noShip
set_option maxRecDepth 20000 in
theorem ggX10_odds_X10_waysThatGoWell : GoodIn wsX10_odds wsX10_waysThatGoWell := goodIn_r _ [15, 2, 16, 17, 18, 19, 20, 21, 22, 23, 24, 25, 26, 27, 28, 29, 30, 31, 32, 33, 34, 35, 36, 37, 38, 39, 40, 41, 42, 43, 44, 45, 46, 47, 48, 49, 50, 51, 52, 53, 54, 55, 56, 5, 57, 58, 59, 60, 61, 62, 63, 64, 65, 66, 67, 68, 69, 70, 71, 72, 73, 74, 75, 76, 77, 78, 79, 80, 81, 82, 83, 84, 85, 86, 87, 88, 89, 90, 91, 92, 93, 94, 95, 96, 97, 98, 99, 100, 101, 102, 103, 104, 105, 106, 107, 108, 109, 110, 111, 112, 113, 114, 115, 116] (by decide +kernel) (by decide +kernel)
set_option maxRecDepth 20000 in
theorem gX10_odds_X10_waysThatGoWell : GoodIn wsX10_odds (wsV RX10 217 RX10 yX10_waysThatGoWell wsX10_waysThatGoWell) := goodIn_app (goodIn_of _ (by decide +kernel)) ggX10_odds_X10_waysThatGoWell
set_option maxRecDepth 20000 in
theorem ggX10_odds_X0_setCount : GoodIn wsX10_odds wsX0_setCount := goodIn_r _ [23, 24, 96, 97, 98, 99, 100, 101, 102] (by decide +kernel) (by decide +kernel)
set_option maxRecDepth 20000 in
theorem gX10_odds_X0_setCount : GoodIn wsX10_odds (wsV RX10 220 RX0 yX0_setCount wsX0_setCount) := goodIn_app (goodIn_of _ (by decide +kernel)) ggX10_odds_X0_setCount
theorem dX10_odds_0 : decode cX10_odds 0 = .ok (.iload_n 1, 1) := by decide +kernel
theorem dX10_odds_1 : decode cX10_odds 1 = .ok (.invokestatic 123, 3) := by decide +kernel
theorem dX10_odds_4 : decode cX10_odds 4 = .ok (.ifCond .eq 19, 3) := by decide +kernel
theorem dX10_odds_7 : decode cX10_odds 7 = .ok (.iload_n 2, 1) := by decide +kernel
theorem dX10_odds_8 : decode cX10_odds 8 = .ok (.ifCond .lt 15, 3) := by decide +kernel
theorem dX10_odds_11 : decode cX10_odds 11 = .ok (.iload_n 2, 1) := by decide +kernel
theorem dX10_odds_12 : decode cX10_odds 12 = .ok (.iconst 1, 1) := by decide +kernel
theorem dX10_odds_13 : decode cX10_odds 13 = .ok (.if_icmp .gt 10, 3) := by decide +kernel
theorem dX10_odds_16 : decode cX10_odds 16 = .ok (.aload_n 0, 1) := by decide +kernel
theorem dX10_odds_17 : decode cX10_odds 17 = .ok (.invokevirtual 129, 3) := by decide +kernel
theorem dX10_odds_20 : decode cX10_odds 20 = .ok (.ifCond .eq 7, 3) := by decide +kernel
theorem dX10_odds_23 : decode cX10_odds 23 = .ok (.ldc2_w 215, 3) := by decide +kernel
theorem dX10_odds_26 : decode cX10_odds 26 = .ok (.lreturn, 1) := by decide +kernel
theorem dX10_odds_27 : decode cX10_odds 27 = .ok (.aload_n 0, 1) := by decide +kernel
theorem dX10_odds_28 : decode cX10_odds 28 = .ok (.iload_n 1, 1) := by decide +kernel
theorem dX10_odds_29 : decode cX10_odds 29 = .ok (.invokevirtual 217, 3) := by decide +kernel
theorem dX10_odds_32 : decode cX10_odds 32 = .ok (.istore_n 3, 1) := by decide +kernel
theorem dX10_odds_33 : decode cX10_odds 33 = .ok (.aload_n 0, 1) := by decide +kernel
theorem dX10_odds_34 : decode cX10_odds 34 = .ok (.getfield 21, 3) := by decide +kernel
theorem dX10_odds_37 : decode cX10_odds 37 = .ok (.invokevirtual 220, 3) := by decide +kernel
theorem dX10_odds_40 : decode cX10_odds 40 = .ok (.istore 4, 2) := by decide +kernel
theorem dX10_odds_42 : decode cX10_odds 42 = .ok (.iload 4, 2) := by decide +kernel
theorem dX10_odds_44 : decode cX10_odds 44 = .ok (.iconst 1, 1) := by decide +kernel
theorem dX10_odds_45 : decode cX10_odds 45 = .ok (.if_icmp .le 22, 3) := by decide +kernel
theorem dX10_odds_48 : decode cX10_odds 48 = .ok (.iload_n 3, 1) := by decide +kernel
theorem dX10_odds_49 : decode cX10_odds 49 = .ok (.iconst 2, 1) := by decide +kernel
theorem dX10_odds_50 : decode cX10_odds 50 = .ok (.irem, 1) := by decide +kernel
theorem dX10_odds_51 : decode cX10_odds 51 = .ok (.ifCond .ne 16, 3) := by decide +kernel
theorem dX10_odds_54 : decode cX10_odds 54 = .ok (.iload_n 3, 1) := by decide +kernel
theorem dX10_odds_55 : decode cX10_odds 55 = .ok (.iconst 2, 1) := by decide +kernel
theorem dX10_odds_56 : decode cX10_odds 56 = .ok (.idiv, 1) := by decide +kernel
theorem dX10_odds_57 : decode cX10_odds 57 = .ok (.istore_n 3, 1) := by decide +kernel
theorem dX10_odds_58 : decode cX10_odds 58 = .ok (.iload 4, 2) := by decide +kernel
theorem dX10_odds_60 : decode cX10_odds 60 = .ok (.iconst 2, 1) := by decide +kernel
theorem dX10_odds_61 : decode cX10_odds 61 = .ok (.idiv, 1) := by decide +kernel
theorem dX10_odds_62 : decode cX10_odds 62 = .ok (.istore 4, 2) := by decide +kernel
theorem dX10_odds_64 : decode cX10_odds 64 = .ok (.goto (-22), 3) := by decide +kernel
theorem dX10_odds_67 : decode cX10_odds 67 = .ok (.iload_n 2, 1) := by decide +kernel
theorem dX10_odds_68 : decode cX10_odds 68 = .ok (.ifCond .ne 8, 3) := by decide +kernel
theorem dX10_odds_71 : decode cX10_odds 71 = .ok (.iload_n 3, 1) := by decide +kernel
theorem dX10_odds_72 : decode cX10_odds 72 = .ok (.i2l, 1) := by decide +kernel
theorem dX10_odds_73 : decode cX10_odds 73 = .ok (.goto 6, 3) := by decide +kernel
theorem dX10_odds_76 : decode cX10_odds 76 = .ok (.iload 4, 2) := by decide +kernel
theorem dX10_odds_78 : decode cX10_odds 78 = .ok (.i2l, 1) := by decide +kernel
theorem dX10_odds_79 : decode cX10_odds 79 = .ok (.lreturn, 1) := by decide +kernel
set_option maxRecDepth 20000 in
theorem ggX10_sheet_X10_sheetAt : GoodIn wsX10_sheet wsX10_sheetAt := goodIn_r _ [6, 7, 31, 32, 33, 34, 35, 36, 37, 38] (by decide +kernel) (by decide +kernel)
set_option maxRecDepth 20000 in
theorem gX10_sheet_X10_sheetAt : GoodIn wsX10_sheet (wsV RX10 63 RX10 yX10_sheetAt wsX10_sheetAt) := goodIn_app (goodIn_of _ (by decide +kernel)) ggX10_sheet_X10_sheetAt
set_option maxRecDepth 20000 in
theorem ggX10_sheet_X10_refused : GoodIn wsX10_sheet wsX10_refused := goodIn_r _ [11, 1, 31, 32, 33, 34, 35, 36, 37, 38] (by decide +kernel) (by decide +kernel)
set_option maxRecDepth 20000 in
theorem gX10_sheet_X10_refused : GoodIn wsX10_sheet (wsV RX10 67 RX10 yX10_refused wsX10_refused) := goodIn_app (goodIn_of _ (by decide +kernel)) ggX10_sheet_X10_refused
set_option maxRecDepth 20000 in
theorem ggX10_sheet_X10_isLane : GoodIn wsX10_sheet wsX10_isLane := goodIn_r _ [14] (by decide +kernel) (by decide +kernel)
set_option maxRecDepth 20000 in
theorem gX10_sheet_X10_isLane : GoodIn wsX10_sheet (va_wsS RX10 71 yX10_isLane wsX10_isLane) := goodIn_app (goodIn_of _ (by decide +kernel)) ggX10_sheet_X10_isLane
set_option maxRecDepth 20000 in
theorem ggX10_sheet_X10_failed : GoodIn wsX10_sheet wsX10_failed := goodIn_r _ [18, 1, 31, 32, 33, 34, 35, 36, 37, 38] (by decide +kernel) (by decide +kernel)
set_option maxRecDepth 20000 in
theorem gX10_sheet_X10_failed : GoodIn wsX10_sheet (wsV RX10 79 RX10 yX10_failed wsX10_failed) := goodIn_app (goodIn_of _ (by decide +kernel)) ggX10_sheet_X10_failed
set_option maxRecDepth 20000 in
theorem ggX10_sheet_X7_renew : GoodIn wsX10_sheet wsX7_renew := goodIn_r _ [23, 24, 25, 26, 27, 28, 29, 30, 39, 40, 41] (by decide +kernel) (by decide +kernel)
set_option maxRecDepth 20000 in
theorem gX10_sheet_X7_renew : GoodIn wsX10_sheet (wsV RX10 223 RX7 yX7_renew wsX7_renew) := goodIn_app (goodIn_of _ (by decide +kernel)) ggX10_sheet_X7_renew
theorem dX10_sheet_0 : decode cX10_sheet 0 = .ok (.aload_n 0, 1) := by decide +kernel
theorem dX10_sheet_1 : decode cX10_sheet 1 = .ok (.iload_n 1, 1) := by decide +kernel
theorem dX10_sheet_2 : decode cX10_sheet 2 = .ok (.invokevirtual 63, 3) := by decide +kernel
theorem dX10_sheet_5 : decode cX10_sheet 5 = .ok (.astore 4, 2) := by decide +kernel
theorem dX10_sheet_7 : decode cX10_sheet 7 = .ok (.aload 4, 2) := by decide +kernel
theorem dX10_sheet_9 : decode cX10_sheet 9 = .ok (.ifnonnull 9, 3) := by decide +kernel
theorem dX10_sheet_12 : decode cX10_sheet 12 = .ok (.aload_n 0, 1) := by decide +kernel
theorem dX10_sheet_13 : decode cX10_sheet 13 = .ok (.iconst (-1), 1) := by decide +kernel
theorem dX10_sheet_14 : decode cX10_sheet 14 = .ok (.invokevirtual 67, 3) := by decide +kernel
theorem dX10_sheet_17 : decode cX10_sheet 17 = .ok (.ireturn, 1) := by decide +kernel
theorem dX10_sheet_18 : decode cX10_sheet 18 = .ok (.iload_n 2, 1) := by decide +kernel
theorem dX10_sheet_19 : decode cX10_sheet 19 = .ok (.invokestatic 71, 3) := by decide +kernel
theorem dX10_sheet_22 : decode cX10_sheet 22 = .ok (.ifCond .eq 9, 3) := by decide +kernel
theorem dX10_sheet_25 : decode cX10_sheet 25 = .ok (.iload_n 3, 1) := by decide +kernel
theorem dX10_sheet_26 : decode cX10_sheet 26 = .ok (.bipush 60, 2) := by decide +kernel
theorem dX10_sheet_28 : decode cX10_sheet 28 = .ok (.if_icmp .le 10, 3) := by decide +kernel
theorem dX10_sheet_31 : decode cX10_sheet 31 = .ok (.aload_n 0, 1) := by decide +kernel
theorem dX10_sheet_32 : decode cX10_sheet 32 = .ok (.bipush (-2), 2) := by decide +kernel
theorem dX10_sheet_34 : decode cX10_sheet 34 = .ok (.invokevirtual 67, 3) := by decide +kernel
theorem dX10_sheet_37 : decode cX10_sheet 37 = .ok (.ireturn, 1) := by decide +kernel
theorem dX10_sheet_38 : decode cX10_sheet 38 = .ok (.iload_n 3, 1) := by decide +kernel
theorem dX10_sheet_39 : decode cX10_sheet 39 = .ok (.ifCond .ge 9, 3) := by decide +kernel
theorem dX10_sheet_42 : decode cX10_sheet 42 = .ok (.aload_n 0, 1) := by decide +kernel
theorem dX10_sheet_43 : decode cX10_sheet 43 = .ok (.iconst 4, 1) := by decide +kernel
theorem dX10_sheet_44 : decode cX10_sheet 44 = .ok (.invokevirtual 79, 3) := by decide +kernel
theorem dX10_sheet_47 : decode cX10_sheet 47 = .ok (.ireturn, 1) := by decide +kernel
theorem dX10_sheet_48 : decode cX10_sheet 48 = .ok (.aload_n 0, 1) := by decide +kernel
theorem dX10_sheet_49 : decode cX10_sheet 49 = .ok (.iconst 0, 1) := by decide +kernel
theorem dX10_sheet_50 : decode cX10_sheet 50 = .ok (.putfield 59, 3) := by decide +kernel
theorem dX10_sheet_53 : decode cX10_sheet 53 = .ok (.aload 4, 2) := by decide +kernel
theorem dX10_sheet_55 : decode cX10_sheet 55 = .ok (.iload_n 2, 1) := by decide +kernel
theorem dX10_sheet_56 : decode cX10_sheet 56 = .ok (.iload_n 3, 1) := by decide +kernel
theorem dX10_sheet_57 : decode cX10_sheet 57 = .ok (.invokevirtual 223, 3) := by decide +kernel
theorem dX10_sheet_60 : decode cX10_sheet 60 = .ok (.iconst 1, 1) := by decide +kernel
theorem dX10_sheet_61 : decode cX10_sheet 61 = .ok (.ireturn, 1) := by decide +kernel
set_option maxRecDepth 20000 in
theorem ggX10_lose_X10_sheetAt : GoodIn wsX10_lose wsX10_sheetAt := goodIn_r _ [5, 6, 18, 19, 20, 21, 22, 23, 24, 25] (by decide +kernel) (by decide +kernel)
set_option maxRecDepth 20000 in
theorem gX10_lose_X10_sheetAt : GoodIn wsX10_lose (wsV RX10 63 RX10 yX10_sheetAt wsX10_sheetAt) := goodIn_app (goodIn_of _ (by decide +kernel)) ggX10_lose_X10_sheetAt
set_option maxRecDepth 20000 in
theorem ggX10_lose_X7_isNothing : GoodIn wsX10_lose wsX7_isNothing := goodIn_r _ [11, 12, 26, 27, 28] (by decide +kernel) (by decide +kernel)
set_option maxRecDepth 20000 in
theorem gX10_lose_X7_isNothing : GoodIn wsX10_lose (wsV RX10 227 RX7 yX7_isNothing wsX7_isNothing) := goodIn_app (goodIn_of _ (by decide +kernel)) ggX10_lose_X7_isNothing
set_option maxRecDepth 20000 in
theorem ggX10_lose_X7_drop : GoodIn wsX10_lose wsX7_drop := goodIn_r _ [16, 12, 17, 26, 27, 28] (by decide +kernel) (by decide +kernel)
set_option maxRecDepth 20000 in
theorem gX10_lose_X7_drop : GoodIn wsX10_lose (wsV RX10 230 RX7 yX7_drop wsX7_drop) := goodIn_app (goodIn_of _ (by decide +kernel)) ggX10_lose_X7_drop
theorem dX10_lose_0 : decode cX10_lose 0 = .ok (.aload_n 0, 1) := by decide +kernel
theorem dX10_lose_1 : decode cX10_lose 1 = .ok (.iload_n 1, 1) := by decide +kernel
theorem dX10_lose_2 : decode cX10_lose 2 = .ok (.invokevirtual 63, 3) := by decide +kernel
theorem dX10_lose_5 : decode cX10_lose 5 = .ok (.astore_n 2, 1) := by decide +kernel
theorem dX10_lose_6 : decode cX10_lose 6 = .ok (.aload_n 2, 1) := by decide +kernel
theorem dX10_lose_7 : decode cX10_lose 7 = .ok (.ifnonnull 5, 3) := by decide +kernel
theorem dX10_lose_10 : decode cX10_lose 10 = .ok (.iconst (-1), 1) := by decide +kernel
theorem dX10_lose_11 : decode cX10_lose 11 = .ok (.ireturn, 1) := by decide +kernel
theorem dX10_lose_12 : decode cX10_lose 12 = .ok (.aload_n 2, 1) := by decide +kernel
theorem dX10_lose_13 : decode cX10_lose 13 = .ok (.invokevirtual 227, 3) := by decide +kernel
theorem dX10_lose_16 : decode cX10_lose 16 = .ok (.ifCond .eq 7, 3) := by decide +kernel
theorem dX10_lose_19 : decode cX10_lose 19 = .ok (.iconst 0, 1) := by decide +kernel
theorem dX10_lose_20 : decode cX10_lose 20 = .ok (.goto 4, 3) := by decide +kernel
theorem dX10_lose_23 : decode cX10_lose 23 = .ok (.iconst 1, 1) := by decide +kernel
theorem dX10_lose_24 : decode cX10_lose 24 = .ok (.istore_n 3, 1) := by decide +kernel
theorem dX10_lose_25 : decode cX10_lose 25 = .ok (.aload_n 2, 1) := by decide +kernel
theorem dX10_lose_26 : decode cX10_lose 26 = .ok (.invokevirtual 230, 3) := by decide +kernel
theorem dX10_lose_29 : decode cX10_lose 29 = .ok (.iload_n 3, 1) := by decide +kernel
theorem dX10_lose_30 : decode cX10_lose 30 = .ok (.ireturn, 1) := by decide +kernel
set_option maxRecDepth 20000 in
theorem ggX10_put_X10_sheetAt : GoodIn wsX10_put wsX10_sheetAt := goodIn_r _ [8, 9, 31, 32, 33, 34, 35, 36, 37, 38] (by decide +kernel) (by decide +kernel)
set_option maxRecDepth 20000 in
theorem gX10_put_X10_sheetAt : GoodIn wsX10_put (wsV RX10 63 RX10 yX10_sheetAt wsX10_sheetAt) := goodIn_app (goodIn_of _ (by decide +kernel)) ggX10_put_X10_sheetAt
set_option maxRecDepth 20000 in
theorem ggX10_put_X10_refused : GoodIn wsX10_put wsX10_refused := goodIn_r _ [13, 2, 31, 32, 33, 34, 35, 36, 37, 38] (by decide +kernel) (by decide +kernel)
set_option maxRecDepth 20000 in
theorem gX10_put_X10_refused : GoodIn wsX10_put (wsV RX10 67 RX10 yX10_refused wsX10_refused) := goodIn_app (goodIn_of _ (by decide +kernel)) ggX10_put_X10_refused
set_option maxRecDepth 20000 in
theorem ggX10_put_X7_isNothing : GoodIn wsX10_put wsX7_isNothing := goodIn_r _ [18, 19, 28, 29, 30] (by decide +kernel) (by decide +kernel)
set_option maxRecDepth 20000 in
theorem gX10_put_X7_isNothing : GoodIn wsX10_put (wsV RX10 227 RX7 yX7_isNothing wsX7_isNothing) := goodIn_app (goodIn_of _ (by decide +kernel)) ggX10_put_X7_isNothing
set_option maxRecDepth 20000 in
theorem ggX10_put_X10_failed : GoodIn wsX10_put wsX10_failed := goodIn_r _ [23, 2, 31, 32, 33, 34, 35, 36, 37, 38] (by decide +kernel) (by decide +kernel)
set_option maxRecDepth 20000 in
theorem gX10_put_X10_failed : GoodIn wsX10_put (wsV RX10 79 RX10 yX10_failed wsX10_failed) := goodIn_app (goodIn_of _ (by decide +kernel)) ggX10_put_X10_failed
set_option maxRecDepth 20000 in
theorem ggX10_put_X7_cut : GoodIn wsX10_put wsX7_cut := goodIn_r _ [27, 19, 28, 29, 30] (by decide +kernel) (by decide +kernel)
set_option maxRecDepth 20000 in
theorem gX10_put_X7_cut : GoodIn wsX10_put (wsV RX10 236 RX7 yX7_cut wsX7_cut) := goodIn_app (goodIn_of _ (by decide +kernel)) ggX10_put_X7_cut
theorem dX10_put_0 : decode cX10_put 0 = .ok (.aload_n 0, 1) := by decide +kernel
theorem dX10_put_1 : decode cX10_put 1 = .ok (.iload_n 1, 1) := by decide +kernel
theorem dX10_put_2 : decode cX10_put 2 = .ok (.invokevirtual 63, 3) := by decide +kernel
theorem dX10_put_5 : decode cX10_put 5 = .ok (.astore 4, 2) := by decide +kernel
theorem dX10_put_7 : decode cX10_put 7 = .ok (.aload 4, 2) := by decide +kernel
theorem dX10_put_9 : decode cX10_put 9 = .ok (.ifnonnull 9, 3) := by decide +kernel
theorem dX10_put_12 : decode cX10_put 12 = .ok (.aload_n 0, 1) := by decide +kernel
theorem dX10_put_13 : decode cX10_put 13 = .ok (.iconst (-1), 1) := by decide +kernel
theorem dX10_put_14 : decode cX10_put 14 = .ok (.invokevirtual 67, 3) := by decide +kernel
theorem dX10_put_17 : decode cX10_put 17 = .ok (.ireturn, 1) := by decide +kernel
theorem dX10_put_18 : decode cX10_put 18 = .ok (.aload 4, 2) := by decide +kernel
theorem dX10_put_20 : decode cX10_put 20 = .ok (.invokevirtual 227, 3) := by decide +kernel
theorem dX10_put_23 : decode cX10_put 23 = .ok (.ifCond .eq 9, 3) := by decide +kernel
theorem dX10_put_26 : decode cX10_put 26 = .ok (.aload_n 0, 1) := by decide +kernel
theorem dX10_put_27 : decode cX10_put 27 = .ok (.iconst 1, 1) := by decide +kernel
theorem dX10_put_28 : decode cX10_put 28 = .ok (.invokevirtual 79, 3) := by decide +kernel
theorem dX10_put_31 : decode cX10_put 31 = .ok (.ireturn, 1) := by decide +kernel
theorem dX10_put_32 : decode cX10_put 32 = .ok (.iload_n 2, 1) := by decide +kernel
theorem dX10_put_33 : decode cX10_put 33 = .ok (.ifCond .lt 12, 3) := by decide +kernel
theorem dX10_put_36 : decode cX10_put 36 = .ok (.iload_n 2, 1) := by decide +kernel
theorem dX10_put_37 : decode cX10_put 37 = .ok (.aload 4, 2) := by decide +kernel
theorem dX10_put_39 : decode cX10_put 39 = .ok (.getfield 233, 3) := by decide +kernel
theorem dX10_put_42 : decode cX10_put 42 = .ok (.if_icmp .lt 9, 3) := by decide +kernel
theorem dX10_put_45 : decode cX10_put 45 = .ok (.aload_n 0, 1) := by decide +kernel
theorem dX10_put_46 : decode cX10_put 46 = .ok (.iconst 3, 1) := by decide +kernel
theorem dX10_put_47 : decode cX10_put 47 = .ok (.invokevirtual 79, 3) := by decide +kernel
theorem dX10_put_50 : decode cX10_put 50 = .ok (.ireturn, 1) := by decide +kernel
theorem dX10_put_51 : decode cX10_put 51 = .ok (.aload_n 0, 1) := by decide +kernel
theorem dX10_put_52 : decode cX10_put 52 = .ok (.iconst 0, 1) := by decide +kernel
theorem dX10_put_53 : decode cX10_put 53 = .ok (.putfield 59, 3) := by decide +kernel
theorem dX10_put_56 : decode cX10_put 56 = .ok (.aload 4, 2) := by decide +kernel
theorem dX10_put_58 : decode cX10_put 58 = .ok (.getfield 82, 3) := by decide +kernel
theorem dX10_put_61 : decode cX10_put 61 = .ok (.iload_n 2, 1) := by decide +kernel
theorem dX10_put_62 : decode cX10_put 62 = .ok (.aload 4, 2) := by decide +kernel
theorem dX10_put_64 : decode cX10_put 64 = .ok (.iload_n 3, 1) := by decide +kernel
theorem dX10_put_65 : decode cX10_put 65 = .ok (.invokevirtual 236, 3) := by decide +kernel
theorem dX10_put_68 : decode cX10_put 68 = .ok (.iastore, 1) := by decide +kernel
theorem dX10_put_69 : decode cX10_put 69 = .ok (.iconst 1, 1) := by decide +kernel
theorem dX10_put_70 : decode cX10_put 70 = .ok (.ireturn, 1) := by decide +kernel
set_option maxRecDepth 20000 in
theorem ggX10_cell_X10_sheetAt : GoodIn wsX10_cell wsX10_sheetAt := goodIn_r _ [8, 9, 28, 29, 30, 31, 32, 33, 34, 35] (by decide +kernel) (by decide +kernel)
set_option maxRecDepth 20000 in
theorem gX10_cell_X10_sheetAt : GoodIn wsX10_cell (wsV RX10 63 RX10 yX10_sheetAt wsX10_sheetAt) := goodIn_app (goodIn_of _ (by decide +kernel)) ggX10_cell_X10_sheetAt
set_option maxRecDepth 20000 in
theorem ggX10_cell_X10_isLane : GoodIn wsX10_cell wsX10_isLane := goodIn_r _ [12] (by decide +kernel) (by decide +kernel)
set_option maxRecDepth 20000 in
theorem gX10_cell_X10_isLane : GoodIn wsX10_cell (va_wsS RX10 71 yX10_isLane wsX10_isLane) := goodIn_app (goodIn_of _ (by decide +kernel)) ggX10_cell_X10_isLane
set_option maxRecDepth 20000 in
theorem ggX10_cell_X7_faultOfCell : GoodIn wsX10_cell wsX7_faultOfCell := goodIn_r _ [17, 18, 19, 20, 21, 16, 22, 23, 24, 25, 26, 27, 36, 37, 38] (by decide +kernel) (by decide +kernel)
set_option maxRecDepth 20000 in
theorem gX10_cell_X7_faultOfCell : GoodIn wsX10_cell (wsV RX10 239 RX7 yX7_faultOfCell wsX7_faultOfCell) := goodIn_app (goodIn_of _ (by decide +kernel)) ggX10_cell_X7_faultOfCell
theorem dX10_cell_0 : decode cX10_cell 0 = .ok (.aload_n 0, 1) := by decide +kernel
theorem dX10_cell_1 : decode cX10_cell 1 = .ok (.iload_n 1, 1) := by decide +kernel
theorem dX10_cell_2 : decode cX10_cell 2 = .ok (.invokevirtual 63, 3) := by decide +kernel
theorem dX10_cell_5 : decode cX10_cell 5 = .ok (.astore 4, 2) := by decide +kernel
theorem dX10_cell_7 : decode cX10_cell 7 = .ok (.aload_n 0, 1) := by decide +kernel
theorem dX10_cell_8 : decode cX10_cell 8 = .ok (.iconst 0, 1) := by decide +kernel
theorem dX10_cell_9 : decode cX10_cell 9 = .ok (.putfield 59, 3) := by decide +kernel
theorem dX10_cell_12 : decode cX10_cell 12 = .ok (.aload 4, 2) := by decide +kernel
theorem dX10_cell_14 : decode cX10_cell 14 = .ok (.ifnull 10, 3) := by decide +kernel
theorem dX10_cell_17 : decode cX10_cell 17 = .ok (.iload_n 3, 1) := by decide +kernel
theorem dX10_cell_18 : decode cX10_cell 18 = .ok (.invokestatic 71, 3) := by decide +kernel
theorem dX10_cell_21 : decode cX10_cell 21 = .ok (.ifCond .ne 7, 3) := by decide +kernel
theorem dX10_cell_24 : decode cX10_cell 24 = .ok (.ldc2_w 215, 3) := by decide +kernel
theorem dX10_cell_27 : decode cX10_cell 27 = .ok (.lreturn, 1) := by decide +kernel
theorem dX10_cell_28 : decode cX10_cell 28 = .ok (.aload_n 0, 1) := by decide +kernel
theorem dX10_cell_29 : decode cX10_cell 29 = .ok (.aload 4, 2) := by decide +kernel
theorem dX10_cell_31 : decode cX10_cell 31 = .ok (.iload_n 3, 1) := by decide +kernel
theorem dX10_cell_32 : decode cX10_cell 32 = .ok (.iload_n 2, 1) := by decide +kernel
theorem dX10_cell_33 : decode cX10_cell 33 = .ok (.invokevirtual 239, 3) := by decide +kernel
theorem dX10_cell_36 : decode cX10_cell 36 = .ok (.putfield 59, 3) := by decide +kernel
theorem dX10_cell_39 : decode cX10_cell 39 = .ok (.aload_n 0, 1) := by decide +kernel
theorem dX10_cell_40 : decode cX10_cell 40 = .ok (.getfield 59, 3) := by decide +kernel
theorem dX10_cell_43 : decode cX10_cell 43 = .ok (.ifCond .ne 14, 3) := by decide +kernel
theorem dX10_cell_46 : decode cX10_cell 46 = .ok (.aload 4, 2) := by decide +kernel
theorem dX10_cell_48 : decode cX10_cell 48 = .ok (.getfield 82, 3) := by decide +kernel
theorem dX10_cell_51 : decode cX10_cell 51 = .ok (.iload_n 2, 1) := by decide +kernel
theorem dX10_cell_52 : decode cX10_cell 52 = .ok (.iaload, 1) := by decide +kernel
theorem dX10_cell_53 : decode cX10_cell 53 = .ok (.i2l, 1) := by decide +kernel
theorem dX10_cell_54 : decode cX10_cell 54 = .ok (.goto 6, 3) := by decide +kernel
theorem dX10_cell_57 : decode cX10_cell 57 = .ok (.ldc2_w 215, 3) := by decide +kernel
theorem dX10_cell_60 : decode cX10_cell 60 = .ok (.lreturn, 1) := by decide +kernel
set_option maxRecDepth 20000 in
theorem ggX10_copy_X10_sheetAt : GoodIn wsX10_copy wsX10_sheetAt := goodIn_r _ [12, 13, 36, 37, 38, 39, 40, 41, 42, 43] (by decide +kernel) (by decide +kernel)
set_option maxRecDepth 20000 in
theorem gX10_copy_X10_sheetAt : GoodIn wsX10_copy (wsV RX10 63 RX10 yX10_sheetAt wsX10_sheetAt) := goodIn_app (goodIn_of _ (by decide +kernel)) ggX10_copy_X10_sheetAt
set_option maxRecDepth 20000 in
theorem ggX10_copy_X10_refused : GoodIn wsX10_copy wsX10_refused := goodIn_r _ [17, 2, 36, 37, 38, 39, 40, 41, 42, 43] (by decide +kernel) (by decide +kernel)
set_option maxRecDepth 20000 in
theorem gX10_copy_X10_refused : GoodIn wsX10_copy (wsV RX10 67 RX10 yX10_refused wsX10_refused) := goodIn_app (goodIn_of _ (by decide +kernel)) ggX10_copy_X10_refused
set_option maxRecDepth 20000 in
theorem ggX10_copy_X7_isNothing : GoodIn wsX10_copy wsX7_isNothing := goodIn_r _ [22, 23, 33, 34, 35] (by decide +kernel) (by decide +kernel)
set_option maxRecDepth 20000 in
theorem gX10_copy_X7_isNothing : GoodIn wsX10_copy (wsV RX10 227 RX7 yX7_isNothing wsX7_isNothing) := goodIn_app (goodIn_of _ (by decide +kernel)) ggX10_copy_X7_isNothing
set_option maxRecDepth 20000 in
theorem ggX10_copy_X10_failed : GoodIn wsX10_copy wsX10_failed := goodIn_r _ [27, 2, 36, 37, 38, 39, 40, 41, 42, 43] (by decide +kernel) (by decide +kernel)
set_option maxRecDepth 20000 in
theorem gX10_copy_X10_failed : GoodIn wsX10_copy (wsV RX10 79 RX10 yX10_failed wsX10_failed) := goodIn_app (goodIn_of _ (by decide +kernel)) ggX10_copy_X10_failed
set_option maxRecDepth 20000 in
theorem ggX10_copy_X7_hasRange : GoodIn wsX10_copy wsX7_hasRange := goodIn_r _ [31, 32, 33, 34, 35] (by decide +kernel) (by decide +kernel)
set_option maxRecDepth 20000 in
theorem gX10_copy_X7_hasRange : GoodIn wsX10_copy (wsV RX10 245 RX7 yX7_hasRange wsX7_hasRange) := goodIn_app (goodIn_of _ (by decide +kernel)) ggX10_copy_X7_hasRange
theorem dX10_copy_0 : decode cX10_copy 0 = .ok (.aload_n 0, 1) := by decide +kernel
theorem dX10_copy_1 : decode cX10_copy 1 = .ok (.iload_n 1, 1) := by decide +kernel
theorem dX10_copy_2 : decode cX10_copy 2 = .ok (.invokevirtual 63, 3) := by decide +kernel
theorem dX10_copy_5 : decode cX10_copy 5 = .ok (.astore 6, 2) := by decide +kernel
theorem dX10_copy_7 : decode cX10_copy 7 = .ok (.aload_n 0, 1) := by decide +kernel
theorem dX10_copy_8 : decode cX10_copy 8 = .ok (.iload_n 3, 1) := by decide +kernel
theorem dX10_copy_9 : decode cX10_copy 9 = .ok (.invokevirtual 63, 3) := by decide +kernel
theorem dX10_copy_12 : decode cX10_copy 12 = .ok (.astore 7, 2) := by decide +kernel
theorem dX10_copy_14 : decode cX10_copy 14 = .ok (.aload 6, 2) := by decide +kernel
theorem dX10_copy_16 : decode cX10_copy 16 = .ok (.ifnull 8, 3) := by decide +kernel
theorem dX10_copy_19 : decode cX10_copy 19 = .ok (.aload 7, 2) := by decide +kernel
theorem dX10_copy_21 : decode cX10_copy 21 = .ok (.ifnonnull 9, 3) := by decide +kernel
theorem dX10_copy_24 : decode cX10_copy 24 = .ok (.aload_n 0, 1) := by decide +kernel
theorem dX10_copy_25 : decode cX10_copy 25 = .ok (.iconst (-1), 1) := by decide +kernel
theorem dX10_copy_26 : decode cX10_copy 26 = .ok (.invokevirtual 67, 3) := by decide +kernel
theorem dX10_copy_29 : decode cX10_copy 29 = .ok (.ireturn, 1) := by decide +kernel
theorem dX10_copy_30 : decode cX10_copy 30 = .ok (.aload 6, 2) := by decide +kernel
theorem dX10_copy_32 : decode cX10_copy 32 = .ok (.invokevirtual 227, 3) := by decide +kernel
theorem dX10_copy_35 : decode cX10_copy 35 = .ok (.ifCond .ne 11, 3) := by decide +kernel
theorem dX10_copy_38 : decode cX10_copy 38 = .ok (.aload 7, 2) := by decide +kernel
theorem dX10_copy_40 : decode cX10_copy 40 = .ok (.invokevirtual 227, 3) := by decide +kernel
theorem dX10_copy_43 : decode cX10_copy 43 = .ok (.ifCond .eq 9, 3) := by decide +kernel
theorem dX10_copy_46 : decode cX10_copy 46 = .ok (.aload_n 0, 1) := by decide +kernel
theorem dX10_copy_47 : decode cX10_copy 47 = .ok (.iconst 1, 1) := by decide +kernel
theorem dX10_copy_48 : decode cX10_copy 48 = .ok (.invokevirtual 79, 3) := by decide +kernel
theorem dX10_copy_51 : decode cX10_copy 51 = .ok (.ireturn, 1) := by decide +kernel
theorem dX10_copy_52 : decode cX10_copy 52 = .ok (.aload 6, 2) := by decide +kernel
theorem dX10_copy_54 : decode cX10_copy 54 = .ok (.getfield 242, 3) := by decide +kernel
theorem dX10_copy_57 : decode cX10_copy 57 = .ok (.aload 7, 2) := by decide +kernel
theorem dX10_copy_59 : decode cX10_copy 59 = .ok (.getfield 242, 3) := by decide +kernel
theorem dX10_copy_62 : decode cX10_copy 62 = .ok (.if_icmp .eq 9, 3) := by decide +kernel
theorem dX10_copy_65 : decode cX10_copy 65 = .ok (.aload_n 0, 1) := by decide +kernel
theorem dX10_copy_66 : decode cX10_copy 66 = .ok (.iconst 2, 1) := by decide +kernel
theorem dX10_copy_67 : decode cX10_copy 67 = .ok (.invokevirtual 79, 3) := by decide +kernel
theorem dX10_copy_70 : decode cX10_copy 70 = .ok (.ireturn, 1) := by decide +kernel
theorem dX10_copy_71 : decode cX10_copy 71 = .ok (.iload 5, 2) := by decide +kernel
theorem dX10_copy_73 : decode cX10_copy 73 = .ok (.ifCond .lt 26, 3) := by decide +kernel
theorem dX10_copy_76 : decode cX10_copy 76 = .ok (.aload 6, 2) := by decide +kernel
theorem dX10_copy_78 : decode cX10_copy 78 = .ok (.iload_n 2, 1) := by decide +kernel
theorem dX10_copy_79 : decode cX10_copy 79 = .ok (.iload 5, 2) := by decide +kernel
theorem dX10_copy_81 : decode cX10_copy 81 = .ok (.invokevirtual 245, 3) := by decide +kernel
theorem dX10_copy_84 : decode cX10_copy 84 = .ok (.ifCond .eq 15, 3) := by decide +kernel
theorem dX10_copy_87 : decode cX10_copy 87 = .ok (.aload 7, 2) := by decide +kernel
theorem dX10_copy_89 : decode cX10_copy 89 = .ok (.iload 4, 2) := by decide +kernel
theorem dX10_copy_91 : decode cX10_copy 91 = .ok (.iload 5, 2) := by decide +kernel
theorem dX10_copy_93 : decode cX10_copy 93 = .ok (.invokevirtual 245, 3) := by decide +kernel
theorem dX10_copy_96 : decode cX10_copy 96 = .ok (.ifCond .ne 9, 3) := by decide +kernel
theorem dX10_copy_99 : decode cX10_copy 99 = .ok (.aload_n 0, 1) := by decide +kernel
theorem dX10_copy_100 : decode cX10_copy 100 = .ok (.iconst 3, 1) := by decide +kernel
theorem dX10_copy_101 : decode cX10_copy 101 = .ok (.invokevirtual 79, 3) := by decide +kernel
theorem dX10_copy_104 : decode cX10_copy 104 = .ok (.ireturn, 1) := by decide +kernel
theorem dX10_copy_105 : decode cX10_copy 105 = .ok (.aload_n 0, 1) := by decide +kernel
theorem dX10_copy_106 : decode cX10_copy 106 = .ok (.iconst 0, 1) := by decide +kernel
theorem dX10_copy_107 : decode cX10_copy 107 = .ok (.putfield 59, 3) := by decide +kernel
theorem dX10_copy_110 : decode cX10_copy 110 = .ok (.aload 6, 2) := by decide +kernel
theorem dX10_copy_112 : decode cX10_copy 112 = .ok (.getfield 82, 3) := by decide +kernel
theorem dX10_copy_115 : decode cX10_copy 115 = .ok (.iload_n 2, 1) := by decide +kernel
theorem dX10_copy_116 : decode cX10_copy 116 = .ok (.aload 7, 2) := by decide +kernel
theorem dX10_copy_118 : decode cX10_copy 118 = .ok (.getfield 82, 3) := by decide +kernel
theorem dX10_copy_121 : decode cX10_copy 121 = .ok (.iload 4, 2) := by decide +kernel
theorem dX10_copy_123 : decode cX10_copy 123 = .ok (.iload 5, 2) := by decide +kernel
theorem dX10_copy_125 : decode cX10_copy 125 = .ok (.invokestatic 182, 3) := by decide +kernel
theorem dX10_copy_128 : decode cX10_copy 128 = .ok (.iload 5, 2) := by decide +kernel
theorem dX10_copy_130 : decode cX10_copy 130 = .ok (.ireturn, 1) := by decide +kernel
set_option maxRecDepth 20000 in
theorem ggX10_tell_X0_at : GoodIn wsX10_tell wsX0_at := goodIn_r _ [7, 8, 9, 10, 11, 6, 12, 13, 63, 64, 65, 66, 67, 68, 69] (by decide +kernel) (by decide +kernel)
set_option maxRecDepth 20000 in
theorem gX10_tell_X0_at : GoodIn wsX10_tell (wsV RX10 101 RX0 yX0_at wsX0_at) := goodIn_app (goodIn_of _ (by decide +kernel)) ggX10_tell_X0_at
set_option maxRecDepth 20000 in
theorem ggX10_tell_X1_telling : GoodIn wsX10_tell wsX1_telling := goodIn_r _ [20, 21, 22, 23, 24, 25, 26, 27, 15, 28, 29, 30, 31, 32, 33, 34, 35, 36, 37, 38, 39, 40, 41, 70, 71, 72, 73, 74, 75, 76, 77, 78, 79] (by decide +kernel) (by decide +kernel)
set_option maxRecDepth 20000 in
theorem gX10_tell_X1_telling_u248X1 : GoodIn wsX10_tell (va_wsO RX10 248 RX1 "AwakeTurns$Sleeper" ⟨"AwakeTurns$Sleeper", "telling", "(LAwakeTurns$Marks;)I"⟩ yX1_telling wsX1_telling) := goodIn_app (goodIn_of _ (by decide +kernel)) ggX10_tell_X1_telling
set_option maxRecDepth 20000 in
theorem ggX10_tell_X5_telling : GoodIn wsX10_tell wsX5_telling := goodIn_r _ [45, 46, 22, 23, 24, 25, 26, 47, 48, 49, 18, 19, 20, 21, 27, 15, 28, 29, 30, 31, 32, 33, 34, 35, 36, 37, 38, 39, 40, 41, 50, 51, 52, 70, 71, 72, 73, 74, 75, 76, 77, 78, 79] (by decide +kernel) (by decide +kernel)
set_option maxRecDepth 20000 in
theorem gX10_tell_X5_telling_u248X5 : GoodIn wsX10_tell (va_wsO RX10 248 RX5 "AwakeTurns$Sleeper" ⟨"AwakeTurns$Sleeper", "telling", "(LAwakeTurns$Marks;)I"⟩ yX5_telling wsX5_telling) := goodIn_app (goodIn_of _ (by decide +kernel)) ggX10_tell_X5_telling
set_option maxRecDepth 20000 in
theorem ggX10_tell_X8_telling : GoodIn wsX10_tell wsX8_telling := goodIn_r _ [31, 32, 33, 34, 35, 30, 36, 37, 38, 22, 23, 24, 25, 26, 39, 40, 41, 71, 72, 73, 74, 75, 76, 77, 78, 79, 70] (by decide +kernel) (by decide +kernel)
set_option maxRecDepth 20000 in
theorem gX10_tell_X8_telling : GoodIn wsX10_tell (wsV RX10 248 RX8 yX8_telling wsX8_telling) := goodIn_app (goodIn_of _ (by decide +kernel)) ggX10_tell_X8_telling
theorem dX10_tell_0 : decode cX10_tell 0 = .ok (.aload_n 0, 1) := by decide +kernel
theorem dX10_tell_1 : decode cX10_tell 1 = .ok (.getfield 21, 3) := by decide +kernel
theorem dX10_tell_4 : decode cX10_tell 4 = .ok (.iload_n 1, 1) := by decide +kernel
theorem dX10_tell_5 : decode cX10_tell 5 = .ok (.invokevirtual 101, 3) := by decide +kernel
theorem dX10_tell_8 : decode cX10_tell 8 = .ok (.astore_n 2, 1) := by decide +kernel
theorem dX10_tell_9 : decode cX10_tell 9 = .ok (.aload_n 2, 1) := by decide +kernel
theorem dX10_tell_10 : decode cX10_tell 10 = .ok (.ifnonnull 7, 3) := by decide +kernel
theorem dX10_tell_13 : decode cX10_tell 13 = .ok (.iconst (-1), 1) := by decide +kernel
theorem dX10_tell_14 : decode cX10_tell 14 = .ok (.goto 11, 3) := by decide +kernel
theorem dX10_tell_17 : decode cX10_tell 17 = .ok (.aload_n 2, 1) := by decide +kernel
theorem dX10_tell_18 : decode cX10_tell 18 = .ok (.aload_n 0, 1) := by decide +kernel
theorem dX10_tell_19 : decode cX10_tell 19 = .ok (.getfield 51, 3) := by decide +kernel
theorem dX10_tell_22 : decode cX10_tell 22 = .ok (.invokevirtual 248, 3) := by decide +kernel
theorem dX10_tell_25 : decode cX10_tell 25 = .ok (.ireturn, 1) := by decide +kernel
set_option maxRecDepth 20000 in
theorem ggX10_greet_X0_at : GoodIn wsX10_greet wsX0_at := goodIn_r _ [7, 8, 9, 10, 11, 6, 12, 13, 43, 44, 45, 46, 47, 48, 49] (by decide +kernel) (by decide +kernel)
set_option maxRecDepth 20000 in
theorem gX10_greet_X0_at : GoodIn wsX10_greet (wsV RX10 101 RX0 yX0_at wsX0_at) := goodIn_app (goodIn_of _ (by decide +kernel)) ggX10_greet_X0_at
set_option maxRecDepth 20000 in
theorem ggX10_greet_X8_greeting : GoodIn wsX10_greet wsX8_greeting := goodIn_r _ [19, 20, 21, 22, 23, 24, 25, 26, 50, 51, 52, 53, 54, 55, 56, 57, 58, 59] (by decide +kernel) (by decide +kernel)
set_option maxRecDepth 20000 in
theorem gX10_greet_X8_greeting_u252X1 : GoodIn wsX10_greet (va_wsU RX10 252 RX1 "AwakeTurns$Sleeper" ⟨"AwakeTurns$Sleeper", "greeting", "(LAwakeTurns$Marks;)I"⟩ yX8_greeting wsX8_greeting) := goodIn_app (goodIn_of _ (by decide +kernel)) ggX10_greet_X8_greeting
set_option maxRecDepth 20000 in
theorem ggX10_greet_X5_greeting : GoodIn wsX10_greet wsX5_greeting := goodIn_r _ [31, 32, 22, 23, 24, 25, 26, 59] (by decide +kernel) (by decide +kernel)
set_option maxRecDepth 20000 in
theorem gX10_greet_X5_greeting_u252X5 : GoodIn wsX10_greet (va_wsO RX10 252 RX5 "AwakeTurns$Sleeper" ⟨"AwakeTurns$Sleeper", "greeting", "(LAwakeTurns$Marks;)I"⟩ yX5_greeting wsX5_greeting) := goodIn_app (goodIn_of _ (by decide +kernel)) ggX10_greet_X5_greeting
set_option maxRecDepth 20000 in
theorem gX10_greet_X8_greeting : GoodIn wsX10_greet (wsV RX10 252 RX8 yX8_greeting wsX8_greeting) := goodIn_app (goodIn_of _ (by decide +kernel)) ggX10_greet_X8_greeting
theorem dX10_greet_0 : decode cX10_greet 0 = .ok (.aload_n 0, 1) := by decide +kernel
theorem dX10_greet_1 : decode cX10_greet 1 = .ok (.getfield 21, 3) := by decide +kernel
theorem dX10_greet_4 : decode cX10_greet 4 = .ok (.iload_n 1, 1) := by decide +kernel
theorem dX10_greet_5 : decode cX10_greet 5 = .ok (.invokevirtual 101, 3) := by decide +kernel
theorem dX10_greet_8 : decode cX10_greet 8 = .ok (.astore_n 2, 1) := by decide +kernel
theorem dX10_greet_9 : decode cX10_greet 9 = .ok (.aload_n 2, 1) := by decide +kernel
theorem dX10_greet_10 : decode cX10_greet 10 = .ok (.ifnonnull 7, 3) := by decide +kernel
theorem dX10_greet_13 : decode cX10_greet 13 = .ok (.iconst (-1), 1) := by decide +kernel
theorem dX10_greet_14 : decode cX10_greet 14 = .ok (.goto 11, 3) := by decide +kernel
theorem dX10_greet_17 : decode cX10_greet 17 = .ok (.aload_n 2, 1) := by decide +kernel
theorem dX10_greet_18 : decode cX10_greet 18 = .ok (.aload_n 0, 1) := by decide +kernel
theorem dX10_greet_19 : decode cX10_greet 19 = .ok (.getfield 51, 3) := by decide +kernel
theorem dX10_greet_22 : decode cX10_greet 22 = .ok (.invokevirtual 252, 3) := by decide +kernel
theorem dX10_greet_25 : decode cX10_greet 25 = .ok (.ireturn, 1) := by decide +kernel
set_option maxRecDepth 20000 in
theorem ggX10_as_X0_at : GoodIn wsX10_as wsX0_at := goodIn_r _ [7, 8, 9, 10, 11, 6, 12, 13, 36, 37, 38, 39, 40, 41, 42] (by decide +kernel) (by decide +kernel)
set_option maxRecDepth 20000 in
theorem gX10_as_X0_at : GoodIn wsX10_as (wsV RX10 101 RX0 yX0_at wsX0_at) := goodIn_app (goodIn_of _ (by decide +kernel)) ggX10_as_X0_at
set_option maxRecDepth 20000 in
theorem ggX10_as_X10_refused : GoodIn wsX10_as wsX10_refused := goodIn_r _ [18, 2, 28, 29, 30, 31, 32, 33, 34, 35] (by decide +kernel) (by decide +kernel)
set_option maxRecDepth 20000 in
theorem gX10_as_X10_refused : GoodIn wsX10_as (wsV RX10 67 RX10 yX10_refused wsX10_refused) := goodIn_app (goodIn_of _ (by decide +kernel)) ggX10_as_X10_refused
set_option maxRecDepth 20000 in
theorem ggX10_as_X10_isOfKind : GoodIn wsX10_as wsX10_isOfKind := goodIn_r _ [21, 22, 23] (by decide +kernel) (by decide +kernel)
set_option maxRecDepth 20000 in
theorem gX10_as_X10_isOfKind : GoodIn wsX10_as (va_wsS RX10 255 yX10_isOfKind wsX10_isOfKind) := goodIn_app (goodIn_of _ (by decide +kernel)) ggX10_as_X10_isOfKind
set_option maxRecDepth 20000 in
theorem ggX10_as_X10_failed : GoodIn wsX10_as wsX10_failed := goodIn_r _ [27, 2, 28, 29, 30, 31, 32, 33, 34, 35] (by decide +kernel) (by decide +kernel)
set_option maxRecDepth 20000 in
theorem gX10_as_X10_failed : GoodIn wsX10_as (wsV RX10 79 RX10 yX10_failed wsX10_failed) := goodIn_app (goodIn_of _ (by decide +kernel)) ggX10_as_X10_failed
theorem dX10_as_0 : decode cX10_as 0 = .ok (.aload_n 0, 1) := by decide +kernel
theorem dX10_as_1 : decode cX10_as 1 = .ok (.getfield 21, 3) := by decide +kernel
theorem dX10_as_4 : decode cX10_as 4 = .ok (.iload_n 1, 1) := by decide +kernel
theorem dX10_as_5 : decode cX10_as 5 = .ok (.invokevirtual 101, 3) := by decide +kernel
theorem dX10_as_8 : decode cX10_as 8 = .ok (.astore_n 3, 1) := by decide +kernel
theorem dX10_as_9 : decode cX10_as 9 = .ok (.aload_n 3, 1) := by decide +kernel
theorem dX10_as_10 : decode cX10_as 10 = .ok (.ifnonnull 9, 3) := by decide +kernel
theorem dX10_as_13 : decode cX10_as 13 = .ok (.aload_n 0, 1) := by decide +kernel
theorem dX10_as_14 : decode cX10_as 14 = .ok (.iconst (-1), 1) := by decide +kernel
theorem dX10_as_15 : decode cX10_as 15 = .ok (.invokevirtual 67, 3) := by decide +kernel
theorem dX10_as_18 : decode cX10_as 18 = .ok (.ireturn, 1) := by decide +kernel
theorem dX10_as_19 : decode cX10_as 19 = .ok (.iload_n 2, 1) := by decide +kernel
theorem dX10_as_20 : decode cX10_as 20 = .ok (.ifCond .lt 8, 3) := by decide +kernel
theorem dX10_as_23 : decode cX10_as 23 = .ok (.iload_n 2, 1) := by decide +kernel
theorem dX10_as_24 : decode cX10_as 24 = .ok (.iconst 3, 1) := by decide +kernel
theorem dX10_as_25 : decode cX10_as 25 = .ok (.if_icmp .lt 10, 3) := by decide +kernel
theorem dX10_as_28 : decode cX10_as 28 = .ok (.aload_n 0, 1) := by decide +kernel
theorem dX10_as_29 : decode cX10_as 29 = .ok (.bipush (-2), 2) := by decide +kernel
theorem dX10_as_31 : decode cX10_as 31 = .ok (.invokevirtual 67, 3) := by decide +kernel
theorem dX10_as_34 : decode cX10_as 34 = .ok (.ireturn, 1) := by decide +kernel
theorem dX10_as_35 : decode cX10_as 35 = .ok (.aload_n 3, 1) := by decide +kernel
theorem dX10_as_36 : decode cX10_as 36 = .ok (.iload_n 2, 1) := by decide +kernel
theorem dX10_as_37 : decode cX10_as 37 = .ok (.invokestatic 255, 3) := by decide +kernel
theorem dX10_as_40 : decode cX10_as 40 = .ok (.ifCond .ne 9, 3) := by decide +kernel
theorem dX10_as_43 : decode cX10_as 43 = .ok (.aload_n 0, 1) := by decide +kernel
theorem dX10_as_44 : decode cX10_as 44 = .ok (.iconst 2, 1) := by decide +kernel
theorem dX10_as_45 : decode cX10_as 45 = .ok (.invokevirtual 79, 3) := by decide +kernel
theorem dX10_as_48 : decode cX10_as 48 = .ok (.ireturn, 1) := by decide +kernel
theorem dX10_as_49 : decode cX10_as 49 = .ok (.aload_n 0, 1) := by decide +kernel
