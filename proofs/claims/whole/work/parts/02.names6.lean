theorem dX11_odds_17 : decode cX11_odds 17 = .ok (.aload_n 0, 1) := by decide +kernel
theorem dX11_odds_18 : decode cX11_odds 18 = .ok (.getfield 90, 3) := by decide +kernel
theorem dX11_odds_21 : decode cX11_odds 21 = .ok (.ifCond .ne 7, 3) := by decide +kernel
theorem dX11_odds_24 : decode cX11_odds 24 = .ok (.invokestatic 86, 3) := by decide +kernel
theorem dX11_odds_27 : decode cX11_odds 27 = .ok (.lreturn, 1) := by decide +kernel
theorem dX11_odds_28 : decode cX11_odds 28 = .ok (.lconst 0, 1) := by decide +kernel
theorem dX11_odds_29 : decode cX11_odds 29 = .ok (.lstore_n 3, 1) := by decide +kernel
theorem dX11_odds_30 : decode cX11_odds 30 = .ok (.iconst 0, 1) := by decide +kernel
theorem dX11_odds_31 : decode cX11_odds 31 = .ok (.istore 5, 2) := by decide +kernel
theorem dX11_odds_33 : decode cX11_odds 33 = .ok (.iload 5, 2) := by decide +kernel
theorem dX11_odds_35 : decode cX11_odds 35 = .ok (.aload_n 0, 1) := by decide +kernel
theorem dX11_odds_36 : decode cX11_odds 36 = .ok (.invokevirtual 185, 3) := by decide +kernel
theorem dX11_odds_39 : decode cX11_odds 39 = .ok (.if_icmp .gt 98, 3) := by decide +kernel
theorem dX11_odds_42 : decode cX11_odds 42 = .ok (.iconst 0, 1) := by decide +kernel
theorem dX11_odds_43 : decode cX11_odds 43 = .ok (.istore 6, 2) := by decide +kernel
theorem dX11_odds_45 : decode cX11_odds 45 = .ok (.iload 6, 2) := by decide +kernel
theorem dX11_odds_47 : decode cX11_odds 47 = .ok (.bipush 12, 2) := by decide +kernel
theorem dX11_odds_49 : decode cX11_odds 49 = .ok (.if_icmp .ge 26, 3) := by decide +kernel
theorem dX11_odds_52 : decode cX11_odds 52 = .ok (.aload_n 0, 1) := by decide +kernel
theorem dX11_odds_53 : decode cX11_odds 53 = .ok (.getfield 40, 3) := by decide +kernel
theorem dX11_odds_56 : decode cX11_odds 56 = .ok (.iload 6, 2) := by decide +kernel
theorem dX11_odds_58 : decode cX11_odds 58 = .ok (.aload_n 0, 1) := by decide +kernel
theorem dX11_odds_59 : decode cX11_odds 59 = .ok (.getfield 19, 3) := by decide +kernel
theorem dX11_odds_62 : decode cX11_odds 62 = .ok (.iload 6, 2) := by decide +kernel
theorem dX11_odds_64 : decode cX11_odds 64 = .ok (.iaload, 1) := by decide +kernel
theorem dX11_odds_65 : decode cX11_odds 65 = .ok (.iload 5, 2) := by decide +kernel
theorem dX11_odds_67 : decode cX11_odds 67 = .ok (.iand, 1) := by decide +kernel
theorem dX11_odds_68 : decode cX11_odds 68 = .ok (.iastore, 1) := by decide +kernel
theorem dX11_odds_69 : decode cX11_odds 69 = .ok (.iinc 6 1, 3) := by decide +kernel
theorem dX11_odds_72 : decode cX11_odds 72 = .ok (.goto (-27), 3) := by decide +kernel
theorem dX11_odds_75 : decode cX11_odds 75 = .ok (.aload_n 0, 1) := by decide +kernel
theorem dX11_odds_76 : decode cX11_odds 76 = .ok (.invokevirtual 173, 3) := by decide +kernel
theorem dX11_odds_79 : decode cX11_odds 79 = .ok (.iconst 1, 1) := by decide +kernel
theorem dX11_odds_80 : decode cX11_odds 80 = .ok (.istore 6, 2) := by decide +kernel
theorem dX11_odds_82 : decode cX11_odds 82 = .ok (.iconst 0, 1) := by decide +kernel
theorem dX11_odds_83 : decode cX11_odds 83 = .ok (.istore 7, 2) := by decide +kernel
theorem dX11_odds_85 : decode cX11_odds 85 = .ok (.iload 7, 2) := by decide +kernel
theorem dX11_odds_87 : decode cX11_odds 87 = .ok (.iload_n 1, 1) := by decide +kernel
theorem dX11_odds_88 : decode cX11_odds 88 = .ok (.if_icmp .gt 30, 3) := by decide +kernel
theorem dX11_odds_91 : decode cX11_odds 91 = .ok (.iload 6, 2) := by decide +kernel
theorem dX11_odds_93 : decode cX11_odds 93 = .ok (.ifCond .eq 16, 3) := by decide +kernel
theorem dX11_odds_96 : decode cX11_odds 96 = .ok (.aload_n 0, 1) := by decide +kernel
theorem dX11_odds_97 : decode cX11_odds 97 = .ok (.iload 7, 2) := by decide +kernel
theorem dX11_odds_99 : decode cX11_odds 99 = .ok (.invokevirtual 179, 3) := by decide +kernel
theorem dX11_odds_102 : decode cX11_odds 102 = .ok (.ifCond .ne 7, 3) := by decide +kernel
theorem dX11_odds_105 : decode cX11_odds 105 = .ok (.iconst 1, 1) := by decide +kernel
theorem dX11_odds_106 : decode cX11_odds 106 = .ok (.goto 4, 3) := by decide +kernel
theorem dX11_odds_109 : decode cX11_odds 109 = .ok (.iconst 0, 1) := by decide +kernel
theorem dX11_odds_110 : decode cX11_odds 110 = .ok (.istore 6, 2) := by decide +kernel
theorem dX11_odds_112 : decode cX11_odds 112 = .ok (.iinc 7 1, 3) := by decide +kernel
theorem dX11_odds_115 : decode cX11_odds 115 = .ok (.goto (-30), 3) := by decide +kernel
theorem dX11_odds_118 : decode cX11_odds 118 = .ok (.lload_n 3, 1) := by decide +kernel
theorem dX11_odds_119 : decode cX11_odds 119 = .ok (.iload 6, 2) := by decide +kernel
theorem dX11_odds_121 : decode cX11_odds 121 = .ok (.ifCond .eq 7, 3) := by decide +kernel
theorem dX11_odds_124 : decode cX11_odds 124 = .ok (.lconst 1, 1) := by decide +kernel
theorem dX11_odds_125 : decode cX11_odds 125 = .ok (.goto 4, 3) := by decide +kernel
theorem dX11_odds_128 : decode cX11_odds 128 = .ok (.lconst 0, 1) := by decide +kernel
theorem dX11_odds_129 : decode cX11_odds 129 = .ok (.ladd, 1) := by decide +kernel
theorem dX11_odds_130 : decode cX11_odds 130 = .ok (.lstore_n 3, 1) := by decide +kernel
theorem dX11_odds_131 : decode cX11_odds 131 = .ok (.iinc 5 1, 3) := by decide +kernel
theorem dX11_odds_134 : decode cX11_odds 134 = .ok (.goto (-101), 3) := by decide +kernel
theorem dX11_odds_137 : decode cX11_odds 137 = .ok (.lload_n 3, 1) := by decide +kernel
theorem dX11_odds_138 : decode cX11_odds 138 = .ok (.aload_n 0, 1) := by decide +kernel
theorem dX11_odds_139 : decode cX11_odds 139 = .ok (.invokevirtual 185, 3) := by decide +kernel
theorem dX11_odds_142 : decode cX11_odds 142 = .ok (.i2l, 1) := by decide +kernel
theorem dX11_odds_143 : decode cX11_odds 143 = .ok (.lconst 1, 1) := by decide +kernel
theorem dX11_odds_144 : decode cX11_odds 144 = .ok (.ladd, 1) := by decide +kernel
theorem dX11_odds_145 : decode cX11_odds 145 = .ok (.iload_n 2, 1) := by decide +kernel
theorem dX11_odds_146 : decode cX11_odds 146 = .ok (.invokestatic 221, 3) := by decide +kernel
theorem dX11_odds_149 : decode cX11_odds 149 = .ok (.lreturn, 1) := by decide +kernel
set_option maxRecDepth 20000 in
theorem ggX11_noSheet_X11_in : GoodIn wsX11_noSheet wsX11_in := goodIn_r _ [5] (by decide +kernel) (by decide +kernel)
set_option maxRecDepth 20000 in
theorem gX11_noSheet_X11_in : GoodIn wsX11_noSheet (va_wsS RX11 93 yX11_in wsX11_in) := goodIn_app (goodIn_of _ (by decide +kernel)) ggX11_noSheet_X11_in
theorem dX11_noSheet_0 : decode cX11_noSheet 0 = .ok (.iload_n 0, 1) := by decide +kernel
theorem dX11_noSheet_1 : decode cX11_noSheet 1 = .ok (.i2l, 1) := by decide +kernel
theorem dX11_noSheet_2 : decode cX11_noSheet 2 = .ok (.lconst 0, 1) := by decide +kernel
theorem dX11_noSheet_3 : decode cX11_noSheet 3 = .ok (.ldc2_w 225, 3) := by decide +kernel
theorem dX11_noSheet_6 : decode cX11_noSheet 6 = .ok (.invokestatic 93, 3) := by decide +kernel
theorem dX11_noSheet_9 : decode cX11_noSheet 9 = .ok (.ifCond .ne 7, 3) := by decide +kernel
theorem dX11_noSheet_12 : decode cX11_noSheet 12 = .ok (.iconst 1, 1) := by decide +kernel
theorem dX11_noSheet_13 : decode cX11_noSheet 13 = .ok (.goto 4, 3) := by decide +kernel
theorem dX11_noSheet_16 : decode cX11_noSheet 16 = .ok (.iconst 0, 1) := by decide +kernel
theorem dX11_noSheet_17 : decode cX11_noSheet 17 = .ok (.ireturn, 1) := by decide +kernel
set_option maxRecDepth 20000 in
theorem ggX11_sheet_X11_noSheet : GoodIn wsX11_sheet wsX11_noSheet := goodIn_r _ [8, 9, 10, 11, 7, 12] (by decide +kernel) (by decide +kernel)
set_option maxRecDepth 20000 in
theorem gX11_sheet_X11_noSheet : GoodIn wsX11_sheet (va_wsS RX11 125 yX11_noSheet wsX11_noSheet) := goodIn_app (goodIn_of _ (by decide +kernel)) ggX11_sheet_X11_noSheet
set_option maxRecDepth 20000 in
theorem ggX11_sheet_X11_refused : GoodIn wsX11_sheet wsX11_refused := goodIn_r _ [16, 17, 22, 23, 24, 25, 26, 27, 28, 29, 30, 31, 32, 33, 34, 35, 36, 37, 38, 39, 40, 41, 42, 43, 44, 45, 46, 47, 48, 49, 50, 51, 52] (by decide +kernel) (by decide +kernel)
set_option maxRecDepth 20000 in
theorem gX11_sheet_X11_refused : GoodIn wsX11_sheet (wsV RX11 129 RX11 yX11_refused wsX11_refused) := goodIn_app (goodIn_of _ (by decide +kernel)) ggX11_sheet_X11_refused
set_option maxRecDepth 20000 in
theorem ggX11_sheet_X11_in : GoodIn wsX11_sheet wsX11_in := goodIn_r _ [12] (by decide +kernel) (by decide +kernel)
set_option maxRecDepth 20000 in
theorem gX11_sheet_X11_in : GoodIn wsX11_sheet (va_wsS RX11 93 yX11_in wsX11_in) := goodIn_app (goodIn_of _ (by decide +kernel)) ggX11_sheet_X11_in
set_option maxRecDepth 20000 in
theorem ggX11_sheet_X11_failed : GoodIn wsX11_sheet wsX11_failed := goodIn_r _ [21, 17, 22, 23, 24, 25, 26, 27, 28, 29, 30, 31, 32, 33, 34, 35, 36, 37, 38, 39, 40, 41, 42, 43, 44, 45, 46, 47, 48, 49, 50, 51, 52] (by decide +kernel) (by decide +kernel)
set_option maxRecDepth 20000 in
theorem gX11_sheet_X11_failed : GoodIn wsX11_sheet (wsV RX11 117 RX11 yX11_failed wsX11_failed) := goodIn_app (goodIn_of _ (by decide +kernel)) ggX11_sheet_X11_failed
theorem dX11_sheet_0 : decode cX11_sheet 0 = .ok (.iload_n 1, 1) := by decide +kernel
theorem dX11_sheet_1 : decode cX11_sheet 1 = .ok (.invokestatic 125, 3) := by decide +kernel
theorem dX11_sheet_4 : decode cX11_sheet 4 = .ok (.ifCond .eq 9, 3) := by decide +kernel
theorem dX11_sheet_7 : decode cX11_sheet 7 = .ok (.aload_n 0, 1) := by decide +kernel
theorem dX11_sheet_8 : decode cX11_sheet 8 = .ok (.iconst (-1), 1) := by decide +kernel
theorem dX11_sheet_9 : decode cX11_sheet 9 = .ok (.invokevirtual 129, 3) := by decide +kernel
theorem dX11_sheet_12 : decode cX11_sheet 12 = .ok (.ireturn, 1) := by decide +kernel
theorem dX11_sheet_13 : decode cX11_sheet 13 = .ok (.iload_n 2, 1) := by decide +kernel
theorem dX11_sheet_14 : decode cX11_sheet 14 = .ok (.i2l, 1) := by decide +kernel
theorem dX11_sheet_15 : decode cX11_sheet 15 = .ok (.lconst 0, 1) := by decide +kernel
theorem dX11_sheet_16 : decode cX11_sheet 16 = .ok (.ldc2_w 132, 3) := by decide +kernel
theorem dX11_sheet_19 : decode cX11_sheet 19 = .ok (.invokestatic 93, 3) := by decide +kernel
theorem dX11_sheet_22 : decode cX11_sheet 22 = .ok (.ifCond .eq 9, 3) := by decide +kernel
theorem dX11_sheet_25 : decode cX11_sheet 25 = .ok (.iload_n 3, 1) := by decide +kernel
theorem dX11_sheet_26 : decode cX11_sheet 26 = .ok (.bipush 60, 2) := by decide +kernel
theorem dX11_sheet_28 : decode cX11_sheet 28 = .ok (.if_icmp .le 10, 3) := by decide +kernel
theorem dX11_sheet_31 : decode cX11_sheet 31 = .ok (.aload_n 0, 1) := by decide +kernel
theorem dX11_sheet_32 : decode cX11_sheet 32 = .ok (.bipush (-2), 2) := by decide +kernel
theorem dX11_sheet_34 : decode cX11_sheet 34 = .ok (.invokevirtual 129, 3) := by decide +kernel
theorem dX11_sheet_37 : decode cX11_sheet 37 = .ok (.ireturn, 1) := by decide +kernel
theorem dX11_sheet_38 : decode cX11_sheet 38 = .ok (.iload_n 3, 1) := by decide +kernel
theorem dX11_sheet_39 : decode cX11_sheet 39 = .ok (.ifCond .ge 9, 3) := by decide +kernel
theorem dX11_sheet_42 : decode cX11_sheet 42 = .ok (.aload_n 0, 1) := by decide +kernel
theorem dX11_sheet_43 : decode cX11_sheet 43 = .ok (.iconst 4, 1) := by decide +kernel
theorem dX11_sheet_44 : decode cX11_sheet 44 = .ok (.invokevirtual 117, 3) := by decide +kernel
theorem dX11_sheet_47 : decode cX11_sheet 47 = .ok (.ireturn, 1) := by decide +kernel
theorem dX11_sheet_48 : decode cX11_sheet 48 = .ok (.aload_n 0, 1) := by decide +kernel
theorem dX11_sheet_49 : decode cX11_sheet 49 = .ok (.getfield 68, 3) := by decide +kernel
theorem dX11_sheet_52 : decode cX11_sheet 52 = .ok (.iload_n 1, 1) := by decide +kernel
theorem dX11_sheet_53 : decode cX11_sheet 53 = .ok (.iload_n 3, 1) := by decide +kernel
theorem dX11_sheet_54 : decode cX11_sheet 54 = .ok (.iastore, 1) := by decide +kernel
theorem dX11_sheet_55 : decode cX11_sheet 55 = .ok (.aload_n 0, 1) := by decide +kernel
theorem dX11_sheet_56 : decode cX11_sheet 56 = .ok (.getfield 71, 3) := by decide +kernel
theorem dX11_sheet_59 : decode cX11_sheet 59 = .ok (.iload_n 1, 1) := by decide +kernel
theorem dX11_sheet_60 : decode cX11_sheet 60 = .ok (.iload_n 2, 1) := by decide +kernel
theorem dX11_sheet_61 : decode cX11_sheet 61 = .ok (.iastore, 1) := by decide +kernel
theorem dX11_sheet_62 : decode cX11_sheet 62 = .ok (.iconst 0, 1) := by decide +kernel
theorem dX11_sheet_63 : decode cX11_sheet 63 = .ok (.istore 4, 2) := by decide +kernel
theorem dX11_sheet_65 : decode cX11_sheet 65 = .ok (.iload 4, 2) := by decide +kernel
theorem dX11_sheet_67 : decode cX11_sheet 67 = .ok (.iload_n 3, 1) := by decide +kernel
theorem dX11_sheet_68 : decode cX11_sheet 68 = .ok (.if_icmp .ge 22, 3) := by decide +kernel
theorem dX11_sheet_71 : decode cX11_sheet 71 = .ok (.aload_n 0, 1) := by decide +kernel
theorem dX11_sheet_72 : decode cX11_sheet 72 = .ok (.getfield 74, 3) := by decide +kernel
theorem dX11_sheet_75 : decode cX11_sheet 75 = .ok (.bipush 60, 2) := by decide +kernel
theorem dX11_sheet_77 : decode cX11_sheet 77 = .ok (.iload_n 1, 1) := by decide +kernel
theorem dX11_sheet_78 : decode cX11_sheet 78 = .ok (.imul, 1) := by decide +kernel
theorem dX11_sheet_79 : decode cX11_sheet 79 = .ok (.iload 4, 2) := by decide +kernel
theorem dX11_sheet_81 : decode cX11_sheet 81 = .ok (.iadd, 1) := by decide +kernel
theorem dX11_sheet_82 : decode cX11_sheet 82 = .ok (.iconst 0, 1) := by decide +kernel
theorem dX11_sheet_83 : decode cX11_sheet 83 = .ok (.iastore, 1) := by decide +kernel
theorem dX11_sheet_84 : decode cX11_sheet 84 = .ok (.iinc 4 1, 3) := by decide +kernel
theorem dX11_sheet_87 : decode cX11_sheet 87 = .ok (.goto (-22), 3) := by decide +kernel
theorem dX11_sheet_90 : decode cX11_sheet 90 = .ok (.aload_n 0, 1) := by decide +kernel
theorem dX11_sheet_91 : decode cX11_sheet 91 = .ok (.iconst 1, 1) := by decide +kernel
theorem dX11_sheet_92 : decode cX11_sheet 92 = .ok (.invokevirtual 129, 3) := by decide +kernel
theorem dX11_sheet_95 : decode cX11_sheet 95 = .ok (.ireturn, 1) := by decide +kernel
set_option maxRecDepth 20000 in
theorem ggX11_lose_X11_noSheet : GoodIn wsX11_lose wsX11_noSheet := goodIn_r _ [5, 6, 7, 8, 4, 9] (by decide +kernel) (by decide +kernel)
set_option maxRecDepth 20000 in
theorem gX11_lose_X11_noSheet : GoodIn wsX11_lose (va_wsS RX11 125 yX11_noSheet wsX11_noSheet) := goodIn_app (goodIn_of _ (by decide +kernel)) ggX11_lose_X11_noSheet
theorem dX11_lose_0 : decode cX11_lose 0 = .ok (.iload_n 1, 1) := by decide +kernel
theorem dX11_lose_1 : decode cX11_lose 1 = .ok (.invokestatic 125, 3) := by decide +kernel
theorem dX11_lose_4 : decode cX11_lose 4 = .ok (.ifCond .eq 5, 3) := by decide +kernel
theorem dX11_lose_7 : decode cX11_lose 7 = .ok (.iconst (-1), 1) := by decide +kernel
theorem dX11_lose_8 : decode cX11_lose 8 = .ok (.ireturn, 1) := by decide +kernel
theorem dX11_lose_9 : decode cX11_lose 9 = .ok (.aload_n 0, 1) := by decide +kernel
theorem dX11_lose_10 : decode cX11_lose 10 = .ok (.getfield 68, 3) := by decide +kernel
theorem dX11_lose_13 : decode cX11_lose 13 = .ok (.iload_n 1, 1) := by decide +kernel
theorem dX11_lose_14 : decode cX11_lose 14 = .ok (.iaload, 1) := by decide +kernel
theorem dX11_lose_15 : decode cX11_lose 15 = .ok (.ifCond .ge 7, 3) := by decide +kernel
theorem dX11_lose_18 : decode cX11_lose 18 = .ok (.iconst 0, 1) := by decide +kernel
theorem dX11_lose_19 : decode cX11_lose 19 = .ok (.goto 4, 3) := by decide +kernel
theorem dX11_lose_22 : decode cX11_lose 22 = .ok (.iconst 1, 1) := by decide +kernel
theorem dX11_lose_23 : decode cX11_lose 23 = .ok (.istore_n 2, 1) := by decide +kernel
theorem dX11_lose_24 : decode cX11_lose 24 = .ok (.aload_n 0, 1) := by decide +kernel
theorem dX11_lose_25 : decode cX11_lose 25 = .ok (.getfield 68, 3) := by decide +kernel
theorem dX11_lose_28 : decode cX11_lose 28 = .ok (.iload_n 1, 1) := by decide +kernel
theorem dX11_lose_29 : decode cX11_lose 29 = .ok (.iconst (-1), 1) := by decide +kernel
theorem dX11_lose_30 : decode cX11_lose 30 = .ok (.iastore, 1) := by decide +kernel
theorem dX11_lose_31 : decode cX11_lose 31 = .ok (.iload_n 2, 1) := by decide +kernel
theorem dX11_lose_32 : decode cX11_lose 32 = .ok (.ireturn, 1) := by decide +kernel
set_option maxRecDepth 20000 in
theorem ggX11_noCell_X11_in : GoodIn wsX11_noCell wsX11_in := goodIn_r _ [5] (by decide +kernel) (by decide +kernel)
set_option maxRecDepth 20000 in
theorem gX11_noCell_X11_in : GoodIn wsX11_noCell (va_wsS RX11 93 yX11_in wsX11_in) := goodIn_app (goodIn_of _ (by decide +kernel)) ggX11_noCell_X11_in
theorem dX11_noCell_0 : decode cX11_noCell 0 = .ok (.aload_n 0, 1) := by decide +kernel
theorem dX11_noCell_1 : decode cX11_noCell 1 = .ok (.getfield 68, 3) := by decide +kernel
theorem dX11_noCell_4 : decode cX11_noCell 4 = .ok (.iload_n 1, 1) := by decide +kernel
theorem dX11_noCell_5 : decode cX11_noCell 5 = .ok (.iaload, 1) := by decide +kernel
theorem dX11_noCell_6 : decode cX11_noCell 6 = .ok (.ifCond .ge 7, 3) := by decide +kernel
theorem dX11_noCell_9 : decode cX11_noCell 9 = .ok (.iconst 1, 1) := by decide +kernel
theorem dX11_noCell_10 : decode cX11_noCell 10 = .ok (.goto 26, 3) := by decide +kernel
theorem dX11_noCell_13 : decode cX11_noCell 13 = .ok (.iload_n 2, 1) := by decide +kernel
theorem dX11_noCell_14 : decode cX11_noCell 14 = .ok (.i2l, 1) := by decide +kernel
theorem dX11_noCell_15 : decode cX11_noCell 15 = .ok (.lconst 0, 1) := by decide +kernel
theorem dX11_noCell_16 : decode cX11_noCell 16 = .ok (.aload_n 0, 1) := by decide +kernel
theorem dX11_noCell_17 : decode cX11_noCell 17 = .ok (.getfield 68, 3) := by decide +kernel
theorem dX11_noCell_20 : decode cX11_noCell 20 = .ok (.iload_n 1, 1) := by decide +kernel
theorem dX11_noCell_21 : decode cX11_noCell 21 = .ok (.iaload, 1) := by decide +kernel
theorem dX11_noCell_22 : decode cX11_noCell 22 = .ok (.i2l, 1) := by decide +kernel
theorem dX11_noCell_23 : decode cX11_noCell 23 = .ok (.lconst 1, 1) := by decide +kernel
theorem dX11_noCell_24 : decode cX11_noCell 24 = .ok (.lsub, 1) := by decide +kernel
theorem dX11_noCell_25 : decode cX11_noCell 25 = .ok (.invokestatic 93, 3) := by decide +kernel
theorem dX11_noCell_28 : decode cX11_noCell 28 = .ok (.ifCond .eq 7, 3) := by decide +kernel
theorem dX11_noCell_31 : decode cX11_noCell 31 = .ok (.iconst 0, 1) := by decide +kernel
theorem dX11_noCell_32 : decode cX11_noCell 32 = .ok (.goto 4, 3) := by decide +kernel
theorem dX11_noCell_35 : decode cX11_noCell 35 = .ok (.iconst 3, 1) := by decide +kernel
theorem dX11_noCell_36 : decode cX11_noCell 36 = .ok (.ireturn, 1) := by decide +kernel
set_option maxRecDepth 20000 in
theorem ggX11_put_X11_noSheet : GoodIn wsX11_put wsX11_noSheet := goodIn_r _ [6, 7, 8, 9, 5, 10] (by decide +kernel) (by decide +kernel)
set_option maxRecDepth 20000 in
theorem gX11_put_X11_noSheet : GoodIn wsX11_put (va_wsS RX11 125 yX11_noSheet wsX11_noSheet) := goodIn_app (goodIn_of _ (by decide +kernel)) ggX11_put_X11_noSheet
set_option maxRecDepth 20000 in
theorem ggX11_put_X11_refused : GoodIn wsX11_put wsX11_refused := goodIn_r _ [14, 15, 25, 26, 27, 28, 29, 30, 31, 32, 33, 34, 35, 36, 37, 38, 39, 40, 41, 42, 43, 44, 45, 46, 47, 48, 49, 50, 51, 52, 53, 54, 55] (by decide +kernel) (by decide +kernel)
set_option maxRecDepth 20000 in
theorem gX11_put_X11_refused : GoodIn wsX11_put (wsV RX11 129 RX11 yX11_refused wsX11_refused) := goodIn_app (goodIn_of _ (by decide +kernel)) ggX11_put_X11_refused
set_option maxRecDepth 20000 in
theorem ggX11_put_X11_noCell : GoodIn wsX11_put wsX11_noCell := goodIn_r _ [19, 20, 8, 9, 5, 10, 25, 26, 27, 28, 29, 30, 31, 32, 33, 34, 35, 36, 37, 38, 39, 40, 41, 42, 43, 44, 45, 46, 47, 48, 49, 50, 51, 52, 53, 54, 55] (by decide +kernel) (by decide +kernel)
set_option maxRecDepth 20000 in
theorem gX11_put_X11_noCell : GoodIn wsX11_put (wsV RX11 227 RX11 yX11_noCell wsX11_noCell) := goodIn_app (goodIn_of _ (by decide +kernel)) ggX11_put_X11_noCell
set_option maxRecDepth 20000 in
theorem ggX11_put_X11_failed : GoodIn wsX11_put wsX11_failed := goodIn_r _ [24, 15, 25, 26, 27, 28, 29, 30, 31, 32, 33, 34, 35, 36, 37, 38, 39, 40, 41, 42, 43, 44, 45, 46, 47, 48, 49, 50, 51, 52, 53, 54, 55] (by decide +kernel) (by decide +kernel)
set_option maxRecDepth 20000 in
theorem gX11_put_X11_failed : GoodIn wsX11_put (wsV RX11 117 RX11 yX11_failed wsX11_failed) := goodIn_app (goodIn_of _ (by decide +kernel)) ggX11_put_X11_failed
theorem dX11_put_0 : decode cX11_put 0 = .ok (.iload_n 1, 1) := by decide +kernel
theorem dX11_put_1 : decode cX11_put 1 = .ok (.invokestatic 125, 3) := by decide +kernel
theorem dX11_put_4 : decode cX11_put 4 = .ok (.ifCond .eq 9, 3) := by decide +kernel
theorem dX11_put_7 : decode cX11_put 7 = .ok (.aload_n 0, 1) := by decide +kernel
theorem dX11_put_8 : decode cX11_put 8 = .ok (.iconst (-1), 1) := by decide +kernel
theorem dX11_put_9 : decode cX11_put 9 = .ok (.invokevirtual 129, 3) := by decide +kernel
theorem dX11_put_12 : decode cX11_put 12 = .ok (.ireturn, 1) := by decide +kernel
theorem dX11_put_13 : decode cX11_put 13 = .ok (.aload_n 0, 1) := by decide +kernel
theorem dX11_put_14 : decode cX11_put 14 = .ok (.iload_n 1, 1) := by decide +kernel
theorem dX11_put_15 : decode cX11_put 15 = .ok (.iload_n 2, 1) := by decide +kernel
theorem dX11_put_16 : decode cX11_put 16 = .ok (.invokevirtual 227, 3) := by decide +kernel
theorem dX11_put_19 : decode cX11_put 19 = .ok (.ifCond .le 14, 3) := by decide +kernel
theorem dX11_put_22 : decode cX11_put 22 = .ok (.aload_n 0, 1) := by decide +kernel
theorem dX11_put_23 : decode cX11_put 23 = .ok (.aload_n 0, 1) := by decide +kernel
theorem dX11_put_24 : decode cX11_put 24 = .ok (.iload_n 1, 1) := by decide +kernel
theorem dX11_put_25 : decode cX11_put 25 = .ok (.iload_n 2, 1) := by decide +kernel
theorem dX11_put_26 : decode cX11_put 26 = .ok (.invokevirtual 227, 3) := by decide +kernel
theorem dX11_put_29 : decode cX11_put 29 = .ok (.invokevirtual 117, 3) := by decide +kernel
theorem dX11_put_32 : decode cX11_put 32 = .ok (.ireturn, 1) := by decide +kernel
theorem dX11_put_33 : decode cX11_put 33 = .ok (.aload_n 0, 1) := by decide +kernel
theorem dX11_put_34 : decode cX11_put 34 = .ok (.getfield 74, 3) := by decide +kernel
theorem dX11_put_37 : decode cX11_put 37 = .ok (.bipush 60, 2) := by decide +kernel
theorem dX11_put_39 : decode cX11_put 39 = .ok (.iload_n 1, 1) := by decide +kernel
theorem dX11_put_40 : decode cX11_put 40 = .ok (.imul, 1) := by decide +kernel
theorem dX11_put_41 : decode cX11_put 41 = .ok (.iload_n 2, 1) := by decide +kernel
theorem dX11_put_42 : decode cX11_put 42 = .ok (.iadd, 1) := by decide +kernel
theorem dX11_put_43 : decode cX11_put 43 = .ok (.aload_n 0, 1) := by decide +kernel
theorem dX11_put_44 : decode cX11_put 44 = .ok (.getfield 71, 3) := by decide +kernel
theorem dX11_put_47 : decode cX11_put 47 = .ok (.iload_n 1, 1) := by decide +kernel
theorem dX11_put_48 : decode cX11_put 48 = .ok (.iaload, 1) := by decide +kernel
theorem dX11_put_49 : decode cX11_put 49 = .ok (.ifCond .ne 8, 3) := by decide +kernel
theorem dX11_put_52 : decode cX11_put 52 = .ok (.iload_n 3, 1) := by decide +kernel
theorem dX11_put_53 : decode cX11_put 53 = .ok (.i2b, 1) := by decide +kernel
theorem dX11_put_54 : decode cX11_put 54 = .ok (.goto 19, 3) := by decide +kernel
theorem dX11_put_57 : decode cX11_put 57 = .ok (.aload_n 0, 1) := by decide +kernel
theorem dX11_put_58 : decode cX11_put 58 = .ok (.getfield 71, 3) := by decide +kernel
theorem dX11_put_61 : decode cX11_put 61 = .ok (.iload_n 1, 1) := by decide +kernel
theorem dX11_put_62 : decode cX11_put 62 = .ok (.iaload, 1) := by decide +kernel
theorem dX11_put_63 : decode cX11_put 63 = .ok (.iconst 1, 1) := by decide +kernel
theorem dX11_put_64 : decode cX11_put 64 = .ok (.if_icmp .ne 8, 3) := by decide +kernel
theorem dX11_put_67 : decode cX11_put 67 = .ok (.iload_n 3, 1) := by decide +kernel
theorem dX11_put_68 : decode cX11_put 68 = .ok (.i2s, 1) := by decide +kernel
theorem dX11_put_69 : decode cX11_put 69 = .ok (.goto 4, 3) := by decide +kernel
theorem dX11_put_72 : decode cX11_put 72 = .ok (.iload_n 3, 1) := by decide +kernel
theorem dX11_put_73 : decode cX11_put 73 = .ok (.iastore, 1) := by decide +kernel
theorem dX11_put_74 : decode cX11_put 74 = .ok (.aload_n 0, 1) := by decide +kernel
theorem dX11_put_75 : decode cX11_put 75 = .ok (.iconst 1, 1) := by decide +kernel
theorem dX11_put_76 : decode cX11_put 76 = .ok (.invokevirtual 129, 3) := by decide +kernel
theorem dX11_put_79 : decode cX11_put 79 = .ok (.ireturn, 1) := by decide +kernel
set_option maxRecDepth 20000 in
theorem ggX11_cell_X11_noSheet : GoodIn wsX11_cell wsX11_noSheet := goodIn_r _ [9, 10, 11, 12, 8, 13] (by decide +kernel) (by decide +kernel)
set_option maxRecDepth 20000 in
theorem gX11_cell_X11_noSheet : GoodIn wsX11_cell (va_wsS RX11 125 yX11_noSheet wsX11_noSheet) := goodIn_app (goodIn_of _ (by decide +kernel)) ggX11_cell_X11_noSheet
set_option maxRecDepth 20000 in
theorem ggX11_cell_X11_in : GoodIn wsX11_cell wsX11_in := goodIn_r _ [13] (by decide +kernel) (by decide +kernel)
set_option maxRecDepth 20000 in
theorem gX11_cell_X11_in : GoodIn wsX11_cell (va_wsS RX11 93 yX11_in wsX11_in) := goodIn_app (goodIn_of _ (by decide +kernel)) ggX11_cell_X11_in
set_option maxRecDepth 20000 in
theorem ggX11_cell_X11_lost : GoodIn wsX11_cell wsX11_lost := goodIn_r _ [16, 17] (by decide +kernel) (by decide +kernel)
set_option maxRecDepth 20000 in
theorem gX11_cell_X11_lost : GoodIn wsX11_cell (va_wsS RX11 86 yX11_lost wsX11_lost) := goodIn_app (goodIn_of _ (by decide +kernel)) ggX11_cell_X11_lost
set_option maxRecDepth 20000 in
theorem ggX11_cell_X11_failedLong : GoodIn wsX11_cell wsX11_failedLong := goodIn_r _ [21, 1, 14, 15, 8, 16, 17, 26, 27, 28, 29, 30, 31, 32, 33, 34, 35, 36, 37, 38, 39, 40, 41, 42, 43, 44, 45, 46, 47, 48, 49, 50, 51, 52, 53, 54, 55, 56] (by decide +kernel) (by decide +kernel)
set_option maxRecDepth 20000 in
theorem gX11_cell_X11_failedLong : GoodIn wsX11_cell (wsV RX11 230 RX11 yX11_failedLong wsX11_failedLong) := goodIn_app (goodIn_of _ (by decide +kernel)) ggX11_cell_X11_failedLong
set_option maxRecDepth 20000 in
theorem ggX11_cell_X11_noCell : GoodIn wsX11_cell wsX11_noCell := goodIn_r _ [25, 3, 11, 12, 8, 13, 26, 27, 28, 29, 30, 31, 32, 33, 34, 35, 36, 37, 38, 39, 40, 41, 42, 43, 44, 45, 46, 47, 48, 49, 50, 51, 52, 53, 54, 55, 56] (by decide +kernel) (by decide +kernel)
set_option maxRecDepth 20000 in
theorem gX11_cell_X11_noCell : GoodIn wsX11_cell (wsV RX11 227 RX11 yX11_noCell wsX11_noCell) := goodIn_app (goodIn_of _ (by decide +kernel)) ggX11_cell_X11_noCell
theorem dX11_cell_0 : decode cX11_cell 0 = .ok (.aload_n 0, 1) := by decide +kernel
theorem dX11_cell_1 : decode cX11_cell 1 = .ok (.iconst 0, 1) := by decide +kernel
theorem dX11_cell_2 : decode cX11_cell 2 = .ok (.putfield 82, 3) := by decide +kernel
theorem dX11_cell_5 : decode cX11_cell 5 = .ok (.iload_n 1, 1) := by decide +kernel
theorem dX11_cell_6 : decode cX11_cell 6 = .ok (.invokestatic 125, 3) := by decide +kernel
theorem dX11_cell_9 : decode cX11_cell 9 = .ok (.ifCond .ne 15, 3) := by decide +kernel
theorem dX11_cell_12 : decode cX11_cell 12 = .ok (.iload_n 3, 1) := by decide +kernel
theorem dX11_cell_13 : decode cX11_cell 13 = .ok (.i2l, 1) := by decide +kernel
theorem dX11_cell_14 : decode cX11_cell 14 = .ok (.lconst 0, 1) := by decide +kernel
theorem dX11_cell_15 : decode cX11_cell 15 = .ok (.ldc2_w 132, 3) := by decide +kernel
theorem dX11_cell_18 : decode cX11_cell 18 = .ok (.invokestatic 93, 3) := by decide +kernel
theorem dX11_cell_21 : decode cX11_cell 21 = .ok (.ifCond .ne 7, 3) := by decide +kernel
theorem dX11_cell_24 : decode cX11_cell 24 = .ok (.invokestatic 86, 3) := by decide +kernel
theorem dX11_cell_27 : decode cX11_cell 27 = .ok (.lreturn, 1) := by decide +kernel
theorem dX11_cell_28 : decode cX11_cell 28 = .ok (.aload_n 0, 1) := by decide +kernel
theorem dX11_cell_29 : decode cX11_cell 29 = .ok (.getfield 68, 3) := by decide +kernel
theorem dX11_cell_32 : decode cX11_cell 32 = .ok (.iload_n 1, 1) := by decide +kernel
theorem dX11_cell_33 : decode cX11_cell 33 = .ok (.iaload, 1) := by decide +kernel
theorem dX11_cell_34 : decode cX11_cell 34 = .ok (.ifCond .lt 19, 3) := by decide +kernel
theorem dX11_cell_37 : decode cX11_cell 37 = .ok (.aload_n 0, 1) := by decide +kernel
theorem dX11_cell_38 : decode cX11_cell 38 = .ok (.getfield 71, 3) := by decide +kernel
theorem dX11_cell_41 : decode cX11_cell 41 = .ok (.iload_n 1, 1) := by decide +kernel
theorem dX11_cell_42 : decode cX11_cell 42 = .ok (.iaload, 1) := by decide +kernel
theorem dX11_cell_43 : decode cX11_cell 43 = .ok (.iload_n 3, 1) := by decide +kernel
theorem dX11_cell_44 : decode cX11_cell 44 = .ok (.if_icmp .eq 9, 3) := by decide +kernel
theorem dX11_cell_47 : decode cX11_cell 47 = .ok (.aload_n 0, 1) := by decide +kernel
theorem dX11_cell_48 : decode cX11_cell 48 = .ok (.iconst 2, 1) := by decide +kernel
theorem dX11_cell_49 : decode cX11_cell 49 = .ok (.invokevirtual 230, 3) := by decide +kernel
theorem dX11_cell_52 : decode cX11_cell 52 = .ok (.lreturn, 1) := by decide +kernel
theorem dX11_cell_53 : decode cX11_cell 53 = .ok (.aload_n 0, 1) := by decide +kernel
theorem dX11_cell_54 : decode cX11_cell 54 = .ok (.iload_n 1, 1) := by decide +kernel
theorem dX11_cell_55 : decode cX11_cell 55 = .ok (.iload_n 2, 1) := by decide +kernel
theorem dX11_cell_56 : decode cX11_cell 56 = .ok (.invokevirtual 227, 3) := by decide +kernel
theorem dX11_cell_59 : decode cX11_cell 59 = .ok (.ifCond .le 16, 3) := by decide +kernel
theorem dX11_cell_62 : decode cX11_cell 62 = .ok (.aload_n 0, 1) := by decide +kernel
theorem dX11_cell_63 : decode cX11_cell 63 = .ok (.aload_n 0, 1) := by decide +kernel
theorem dX11_cell_64 : decode cX11_cell 64 = .ok (.iload_n 1, 1) := by decide +kernel
theorem dX11_cell_65 : decode cX11_cell 65 = .ok (.iload_n 2, 1) := by decide +kernel
theorem dX11_cell_66 : decode cX11_cell 66 = .ok (.invokevirtual 227, 3) := by decide +kernel
theorem dX11_cell_69 : decode cX11_cell 69 = .ok (.invokevirtual 230, 3) := by decide +kernel
theorem dX11_cell_72 : decode cX11_cell 72 = .ok (.goto 15, 3) := by decide +kernel
theorem dX11_cell_75 : decode cX11_cell 75 = .ok (.aload_n 0, 1) := by decide +kernel
theorem dX11_cell_76 : decode cX11_cell 76 = .ok (.getfield 74, 3) := by decide +kernel
theorem dX11_cell_79 : decode cX11_cell 79 = .ok (.bipush 60, 2) := by decide +kernel
theorem dX11_cell_81 : decode cX11_cell 81 = .ok (.iload_n 1, 1) := by decide +kernel
theorem dX11_cell_82 : decode cX11_cell 82 = .ok (.imul, 1) := by decide +kernel
theorem dX11_cell_83 : decode cX11_cell 83 = .ok (.iload_n 2, 1) := by decide +kernel
theorem dX11_cell_84 : decode cX11_cell 84 = .ok (.iadd, 1) := by decide +kernel
theorem dX11_cell_85 : decode cX11_cell 85 = .ok (.iaload, 1) := by decide +kernel
theorem dX11_cell_86 : decode cX11_cell 86 = .ok (.i2l, 1) := by decide +kernel
theorem dX11_cell_87 : decode cX11_cell 87 = .ok (.lreturn, 1) := by decide +kernel
theorem dX11_isBeyond_0 : decode cX11_isBeyond 0 = .ok (.iload_n 0, 1) := by decide +kernel
theorem dX11_isBeyond_1 : decode cX11_isBeyond 1 = .ok (.ifCond .lt 19, 3) := by decide +kernel
theorem dX11_isBeyond_4 : decode cX11_isBeyond 4 = .ok (.lload_n 1, 1) := by decide +kernel
theorem dX11_isBeyond_5 : decode cX11_isBeyond 5 = .ok (.lconst 0, 1) := by decide +kernel
theorem dX11_isBeyond_6 : decode cX11_isBeyond 6 = .ok (.lcmp, 1) := by decide +kernel
theorem dX11_isBeyond_7 : decode cX11_isBeyond 7 = .ok (.ifCond .lt 13, 3) := by decide +kernel
theorem dX11_isBeyond_10 : decode cX11_isBeyond 10 = .ok (.iload_n 0, 1) := by decide +kernel
theorem dX11_isBeyond_11 : decode cX11_isBeyond 11 = .ok (.i2l, 1) := by decide +kernel
theorem dX11_isBeyond_12 : decode cX11_isBeyond 12 = .ok (.lload_n 1, 1) := by decide +kernel
theorem dX11_isBeyond_13 : decode cX11_isBeyond 13 = .ok (.ladd, 1) := by decide +kernel
theorem dX11_isBeyond_14 : decode cX11_isBeyond 14 = .ok (.iload_n 3, 1) := by decide +kernel
theorem dX11_isBeyond_15 : decode cX11_isBeyond 15 = .ok (.i2l, 1) := by decide +kernel
theorem dX11_isBeyond_16 : decode cX11_isBeyond 16 = .ok (.lcmp, 1) := by decide +kernel
theorem dX11_isBeyond_17 : decode cX11_isBeyond 17 = .ok (.ifCond .le 7, 3) := by decide +kernel
theorem dX11_isBeyond_20 : decode cX11_isBeyond 20 = .ok (.iconst 1, 1) := by decide +kernel
theorem dX11_isBeyond_21 : decode cX11_isBeyond 21 = .ok (.goto 4, 3) := by decide +kernel
theorem dX11_isBeyond_24 : decode cX11_isBeyond 24 = .ok (.iconst 0, 1) := by decide +kernel
theorem dX11_isBeyond_25 : decode cX11_isBeyond 25 = .ok (.ireturn, 1) := by decide +kernel
set_option maxRecDepth 20000 in
theorem ggX11_copy_X11_noSheet : GoodIn wsX11_copy wsX11_noSheet := goodIn_r _ [8, 9, 10, 11, 7, 12] (by decide +kernel) (by decide +kernel)
set_option maxRecDepth 20000 in
theorem gX11_copy_X11_noSheet : GoodIn wsX11_copy (va_wsS RX11 125 yX11_noSheet wsX11_noSheet) := goodIn_app (goodIn_of _ (by decide +kernel)) ggX11_copy_X11_noSheet
set_option maxRecDepth 20000 in
theorem ggX11_copy_X11_refused : GoodIn wsX11_copy wsX11_refused := goodIn_r _ [16, 17, 25, 26, 27, 28, 29, 30, 31, 32, 33, 34, 35, 36, 37, 38, 39, 40, 41, 42, 43, 44, 45, 46, 47, 48, 49, 50, 51, 52, 53, 54, 55] (by decide +kernel) (by decide +kernel)
set_option maxRecDepth 20000 in
theorem gX11_copy_X11_refused : GoodIn wsX11_copy (wsV RX11 129 RX11 yX11_refused wsX11_refused) := goodIn_app (goodIn_of _ (by decide +kernel)) ggX11_copy_X11_refused
set_option maxRecDepth 20000 in
theorem ggX11_copy_X11_failed : GoodIn wsX11_copy wsX11_failed := goodIn_r _ [21, 17, 25, 26, 27, 28, 29, 30, 31, 32, 33, 34, 35, 36, 37, 38, 39, 40, 41, 42, 43, 44, 45, 46, 47, 48, 49, 50, 51, 52, 53, 54, 55] (by decide +kernel) (by decide +kernel)
set_option maxRecDepth 20000 in
theorem gX11_copy_X11_failed : GoodIn wsX11_copy (wsV RX11 117 RX11 yX11_failed wsX11_failed) := goodIn_app (goodIn_of _ (by decide +kernel)) ggX11_copy_X11_failed
set_option maxRecDepth 20000 in
theorem ggX11_copy_X11_isBeyond : GoodIn wsX11_copy wsX11_isBeyond := goodIn_r _ [24] (by decide +kernel) (by decide +kernel)
set_option maxRecDepth 20000 in
theorem gX11_copy_X11_isBeyond : GoodIn wsX11_copy (va_wsS RX11 121 yX11_isBeyond wsX11_isBeyond) := goodIn_app (goodIn_of _ (by decide +kernel)) ggX11_copy_X11_isBeyond
theorem dX11_copy_0 : decode cX11_copy 0 = .ok (.iload_n 1, 1) := by decide +kernel
theorem dX11_copy_1 : decode cX11_copy 1 = .ok (.invokestatic 125, 3) := by decide +kernel
theorem dX11_copy_4 : decode cX11_copy 4 = .ok (.ifCond .ne 10, 3) := by decide +kernel
theorem dX11_copy_7 : decode cX11_copy 7 = .ok (.iload_n 3, 1) := by decide +kernel
theorem dX11_copy_8 : decode cX11_copy 8 = .ok (.invokestatic 125, 3) := by decide +kernel
theorem dX11_copy_11 : decode cX11_copy 11 = .ok (.ifCond .eq 9, 3) := by decide +kernel
theorem dX11_copy_14 : decode cX11_copy 14 = .ok (.aload_n 0, 1) := by decide +kernel
theorem dX11_copy_15 : decode cX11_copy 15 = .ok (.iconst (-1), 1) := by decide +kernel
theorem dX11_copy_16 : decode cX11_copy 16 = .ok (.invokevirtual 129, 3) := by decide +kernel
theorem dX11_copy_19 : decode cX11_copy 19 = .ok (.ireturn, 1) := by decide +kernel
theorem dX11_copy_20 : decode cX11_copy 20 = .ok (.aload_n 0, 1) := by decide +kernel
theorem dX11_copy_21 : decode cX11_copy 21 = .ok (.getfield 68, 3) := by decide +kernel
theorem dX11_copy_24 : decode cX11_copy 24 = .ok (.iload_n 1, 1) := by decide +kernel
theorem dX11_copy_25 : decode cX11_copy 25 = .ok (.iaload, 1) := by decide +kernel
theorem dX11_copy_26 : decode cX11_copy 26 = .ok (.ifCond .lt 12, 3) := by decide +kernel
theorem dX11_copy_29 : decode cX11_copy 29 = .ok (.aload_n 0, 1) := by decide +kernel
theorem dX11_copy_30 : decode cX11_copy 30 = .ok (.getfield 68, 3) := by decide +kernel
theorem dX11_copy_33 : decode cX11_copy 33 = .ok (.iload_n 3, 1) := by decide +kernel
theorem dX11_copy_34 : decode cX11_copy 34 = .ok (.iaload, 1) := by decide +kernel
theorem dX11_copy_35 : decode cX11_copy 35 = .ok (.ifCond .ge 9, 3) := by decide +kernel
theorem dX11_copy_38 : decode cX11_copy 38 = .ok (.aload_n 0, 1) := by decide +kernel
theorem dX11_copy_39 : decode cX11_copy 39 = .ok (.iconst 1, 1) := by decide +kernel
theorem dX11_copy_40 : decode cX11_copy 40 = .ok (.invokevirtual 117, 3) := by decide +kernel
theorem dX11_copy_43 : decode cX11_copy 43 = .ok (.ireturn, 1) := by decide +kernel
theorem dX11_copy_44 : decode cX11_copy 44 = .ok (.aload_n 0, 1) := by decide +kernel
theorem dX11_copy_45 : decode cX11_copy 45 = .ok (.getfield 71, 3) := by decide +kernel
theorem dX11_copy_48 : decode cX11_copy 48 = .ok (.iload_n 1, 1) := by decide +kernel
theorem dX11_copy_49 : decode cX11_copy 49 = .ok (.iaload, 1) := by decide +kernel
theorem dX11_copy_50 : decode cX11_copy 50 = .ok (.aload_n 0, 1) := by decide +kernel
theorem dX11_copy_51 : decode cX11_copy 51 = .ok (.getfield 71, 3) := by decide +kernel
theorem dX11_copy_54 : decode cX11_copy 54 = .ok (.iload_n 3, 1) := by decide +kernel
theorem dX11_copy_55 : decode cX11_copy 55 = .ok (.iaload, 1) := by decide +kernel
theorem dX11_copy_56 : decode cX11_copy 56 = .ok (.if_icmp .eq 9, 3) := by decide +kernel
theorem dX11_copy_59 : decode cX11_copy 59 = .ok (.aload_n 0, 1) := by decide +kernel
theorem dX11_copy_60 : decode cX11_copy 60 = .ok (.iconst 2, 1) := by decide +kernel
theorem dX11_copy_61 : decode cX11_copy 61 = .ok (.invokevirtual 117, 3) := by decide +kernel
theorem dX11_copy_64 : decode cX11_copy 64 = .ok (.ireturn, 1) := by decide +kernel
theorem dX11_copy_65 : decode cX11_copy 65 = .ok (.iload_n 2, 1) := by decide +kernel
theorem dX11_copy_66 : decode cX11_copy 66 = .ok (.iload 5, 2) := by decide +kernel
theorem dX11_copy_68 : decode cX11_copy 68 = .ok (.i2l, 1) := by decide +kernel
theorem dX11_copy_69 : decode cX11_copy 69 = .ok (.aload_n 0, 1) := by decide +kernel
theorem dX11_copy_70 : decode cX11_copy 70 = .ok (.getfield 68, 3) := by decide +kernel
theorem dX11_copy_73 : decode cX11_copy 73 = .ok (.iload_n 1, 1) := by decide +kernel
theorem dX11_copy_74 : decode cX11_copy 74 = .ok (.iaload, 1) := by decide +kernel
theorem dX11_copy_75 : decode cX11_copy 75 = .ok (.invokestatic 121, 3) := by decide +kernel
theorem dX11_copy_78 : decode cX11_copy 78 = .ok (.ifCond .ne 20, 3) := by decide +kernel
theorem dX11_copy_81 : decode cX11_copy 81 = .ok (.iload 4, 2) := by decide +kernel
theorem dX11_copy_83 : decode cX11_copy 83 = .ok (.iload 5, 2) := by decide +kernel
theorem dX11_copy_85 : decode cX11_copy 85 = .ok (.i2l, 1) := by decide +kernel
theorem dX11_copy_86 : decode cX11_copy 86 = .ok (.aload_n 0, 1) := by decide +kernel
theorem dX11_copy_87 : decode cX11_copy 87 = .ok (.getfield 68, 3) := by decide +kernel
theorem dX11_copy_90 : decode cX11_copy 90 = .ok (.iload_n 3, 1) := by decide +kernel
theorem dX11_copy_91 : decode cX11_copy 91 = .ok (.iaload, 1) := by decide +kernel
theorem dX11_copy_92 : decode cX11_copy 92 = .ok (.invokestatic 121, 3) := by decide +kernel
theorem dX11_copy_95 : decode cX11_copy 95 = .ok (.ifCond .eq 9, 3) := by decide +kernel
theorem dX11_copy_98 : decode cX11_copy 98 = .ok (.aload_n 0, 1) := by decide +kernel
theorem dX11_copy_99 : decode cX11_copy 99 = .ok (.iconst 3, 1) := by decide +kernel
theorem dX11_copy_100 : decode cX11_copy 100 = .ok (.invokevirtual 117, 3) := by decide +kernel
theorem dX11_copy_103 : decode cX11_copy 103 = .ok (.ireturn, 1) := by decide +kernel
theorem dX11_copy_104 : decode cX11_copy 104 = .ok (.iconst 0, 1) := by decide +kernel
theorem dX11_copy_105 : decode cX11_copy 105 = .ok (.istore 6, 2) := by decide +kernel
theorem dX11_copy_107 : decode cX11_copy 107 = .ok (.iload 6, 2) := by decide +kernel
theorem dX11_copy_109 : decode cX11_copy 109 = .ok (.iload 5, 2) := by decide +kernel
theorem dX11_copy_111 : decode cX11_copy 111 = .ok (.if_icmp .ge 30, 3) := by decide +kernel
theorem dX11_copy_114 : decode cX11_copy 114 = .ok (.aload_n 0, 1) := by decide +kernel
theorem dX11_copy_115 : decode cX11_copy 115 = .ok (.getfield 77, 3) := by decide +kernel
theorem dX11_copy_118 : decode cX11_copy 118 = .ok (.iload 6, 2) := by decide +kernel
theorem dX11_copy_120 : decode cX11_copy 120 = .ok (.aload_n 0, 1) := by decide +kernel
theorem dX11_copy_121 : decode cX11_copy 121 = .ok (.getfield 74, 3) := by decide +kernel
theorem dX11_copy_124 : decode cX11_copy 124 = .ok (.bipush 60, 2) := by decide +kernel
theorem dX11_copy_126 : decode cX11_copy 126 = .ok (.iload_n 1, 1) := by decide +kernel
theorem dX11_copy_127 : decode cX11_copy 127 = .ok (.imul, 1) := by decide +kernel
theorem dX11_copy_128 : decode cX11_copy 128 = .ok (.iload_n 2, 1) := by decide +kernel
theorem dX11_copy_129 : decode cX11_copy 129 = .ok (.iadd, 1) := by decide +kernel
theorem dX11_copy_130 : decode cX11_copy 130 = .ok (.iload 6, 2) := by decide +kernel
theorem dX11_copy_132 : decode cX11_copy 132 = .ok (.iadd, 1) := by decide +kernel
theorem dX11_copy_133 : decode cX11_copy 133 = .ok (.iaload, 1) := by decide +kernel
theorem dX11_copy_134 : decode cX11_copy 134 = .ok (.iastore, 1) := by decide +kernel
theorem dX11_copy_135 : decode cX11_copy 135 = .ok (.iinc 6 1, 3) := by decide +kernel
theorem dX11_copy_138 : decode cX11_copy 138 = .ok (.goto (-31), 3) := by decide +kernel
theorem dX11_copy_141 : decode cX11_copy 141 = .ok (.iconst 0, 1) := by decide +kernel
theorem dX11_copy_142 : decode cX11_copy 142 = .ok (.istore 6, 2) := by decide +kernel
theorem dX11_copy_144 : decode cX11_copy 144 = .ok (.iload 6, 2) := by decide +kernel
theorem dX11_copy_146 : decode cX11_copy 146 = .ok (.iload 5, 2) := by decide +kernel
theorem dX11_copy_148 : decode cX11_copy 148 = .ok (.if_icmp .ge 31, 3) := by decide +kernel
theorem dX11_copy_151 : decode cX11_copy 151 = .ok (.aload_n 0, 1) := by decide +kernel
theorem dX11_copy_152 : decode cX11_copy 152 = .ok (.getfield 74, 3) := by decide +kernel
theorem dX11_copy_155 : decode cX11_copy 155 = .ok (.bipush 60, 2) := by decide +kernel
theorem dX11_copy_157 : decode cX11_copy 157 = .ok (.iload_n 3, 1) := by decide +kernel
theorem dX11_copy_158 : decode cX11_copy 158 = .ok (.imul, 1) := by decide +kernel
theorem dX11_copy_159 : decode cX11_copy 159 = .ok (.iload 4, 2) := by decide +kernel
theorem dX11_copy_161 : decode cX11_copy 161 = .ok (.iadd, 1) := by decide +kernel
theorem dX11_copy_162 : decode cX11_copy 162 = .ok (.iload 6, 2) := by decide +kernel
theorem dX11_copy_164 : decode cX11_copy 164 = .ok (.iadd, 1) := by decide +kernel
theorem dX11_copy_165 : decode cX11_copy 165 = .ok (.aload_n 0, 1) := by decide +kernel
theorem dX11_copy_166 : decode cX11_copy 166 = .ok (.getfield 77, 3) := by decide +kernel
theorem dX11_copy_169 : decode cX11_copy 169 = .ok (.iload 6, 2) := by decide +kernel
theorem dX11_copy_171 : decode cX11_copy 171 = .ok (.iaload, 1) := by decide +kernel
theorem dX11_copy_172 : decode cX11_copy 172 = .ok (.iastore, 1) := by decide +kernel
theorem dX11_copy_173 : decode cX11_copy 173 = .ok (.iinc 6 1, 3) := by decide +kernel
theorem dX11_copy_176 : decode cX11_copy 176 = .ok (.goto (-32), 3) := by decide +kernel
theorem dX11_copy_179 : decode cX11_copy 179 = .ok (.aload_n 0, 1) := by decide +kernel
theorem dX11_copy_180 : decode cX11_copy 180 = .ok (.iload 5, 2) := by decide +kernel
theorem dX11_copy_182 : decode cX11_copy 182 = .ok (.invokevirtual 129, 3) := by decide +kernel
theorem dX11_copy_185 : decode cX11_copy 185 = .ok (.ireturn, 1) := by decide +kernel
theorem dX11_traced_0 : decode cX11_traced 0 = .ok (.aload_n 0, 1) := by decide +kernel
theorem dX11_traced_1 : decode cX11_traced 1 = .ok (.bipush 31, 2) := by decide +kernel
theorem dX11_traced_3 : decode cX11_traced 3 = .ok (.aload_n 0, 1) := by decide +kernel
theorem dX11_traced_4 : decode cX11_traced 4 = .ok (.getfield 234, 3) := by decide +kernel
theorem dX11_traced_7 : decode cX11_traced 7 = .ok (.imul, 1) := by decide +kernel
theorem dX11_traced_8 : decode cX11_traced 8 = .ok (.iload_n 1, 1) := by decide +kernel
theorem dX11_traced_9 : decode cX11_traced 9 = .ok (.iadd, 1) := by decide +kernel
theorem dX11_traced_10 : decode cX11_traced 10 = .ok (.putfield 234, 3) := by decide +kernel
theorem dX11_traced_13 : decode cX11_traced 13 = .ok (.return_, 1) := by decide +kernel
set_option maxRecDepth 20000 in
theorem ggX11_tell_X11_noSleeper : GoodIn wsX11_tell wsX11_noSleeper := goodIn_r _ [7, 8, 9, 10, 6, 11, 17, 18, 19, 20, 21, 22, 23, 24, 25, 26, 27, 28, 29, 30, 31, 32, 33, 34, 35, 36, 37, 38, 39, 40, 41, 42, 43, 44, 45, 46, 47] (by decide +kernel) (by decide +kernel)
set_option maxRecDepth 20000 in
theorem gX11_tell_X11_noSleeper : GoodIn wsX11_tell (wsV RX11 150 RX11 yX11_noSleeper wsX11_noSleeper) := goodIn_app (goodIn_of _ (by decide +kernel)) ggX11_tell_X11_noSleeper
set_option maxRecDepth 20000 in
theorem ggX11_tell_X11_traced : GoodIn wsX11_tell wsX11_traced := goodIn_r _ [15, 16, 17, 18, 19, 20, 21, 22, 23, 24, 25, 26, 27, 28, 29, 30, 31, 32, 33, 34, 35, 36, 37, 38, 39, 40, 41, 42, 43, 44, 45, 46, 47] (by decide +kernel) (by decide +kernel)
set_option maxRecDepth 20000 in
theorem gX11_tell_X11_traced : GoodIn wsX11_tell (wsV RX11 237 RX11 yX11_traced wsX11_traced) := goodIn_app (goodIn_of _ (by decide +kernel)) ggX11_tell_X11_traced
theorem dX11_tell_0 : decode cX11_tell 0 = .ok (.aload_n 0, 1) := by decide +kernel
theorem dX11_tell_1 : decode cX11_tell 1 = .ok (.iload_n 1, 1) := by decide +kernel
theorem dX11_tell_2 : decode cX11_tell 2 = .ok (.invokevirtual 150, 3) := by decide +kernel
theorem dX11_tell_5 : decode cX11_tell 5 = .ok (.ifCond .eq 5, 3) := by decide +kernel
theorem dX11_tell_8 : decode cX11_tell 8 = .ok (.iconst (-1), 1) := by decide +kernel
theorem dX11_tell_9 : decode cX11_tell 9 = .ok (.ireturn, 1) := by decide +kernel
theorem dX11_tell_10 : decode cX11_tell 10 = .ok (.aload_n 0, 1) := by decide +kernel
theorem dX11_tell_11 : decode cX11_tell 11 = .ok (.getfield 7, 3) := by decide +kernel
theorem dX11_tell_14 : decode cX11_tell 14 = .ok (.iload_n 1, 1) := by decide +kernel
theorem dX11_tell_15 : decode cX11_tell 15 = .ok (.iaload, 1) := by decide +kernel
theorem dX11_tell_16 : decode cX11_tell 16 = .ok (.istore_n 2, 1) := by decide +kernel
theorem dX11_tell_17 : decode cX11_tell 17 = .ok (.iload_n 2, 1) := by decide +kernel
theorem dX11_tell_18 : decode cX11_tell 18 = .ok (.iconst 2, 1) := by decide +kernel
theorem dX11_tell_19 : decode cX11_tell 19 = .ok (.if_icmp .ne 8, 3) := by decide +kernel
theorem dX11_tell_22 : decode cX11_tell 22 = .ok (.aload_n 0, 1) := by decide +kernel
theorem dX11_tell_23 : decode cX11_tell 23 = .ok (.iconst 3, 1) := by decide +kernel
theorem dX11_tell_24 : decode cX11_tell 24 = .ok (.invokevirtual 237, 3) := by decide +kernel
theorem dX11_tell_27 : decode cX11_tell 27 = .ok (.iload_n 2, 1) := by decide +kernel
theorem dX11_tell_28 : decode cX11_tell 28 = .ok (.ifCond .le 8, 3) := by decide +kernel
theorem dX11_tell_31 : decode cX11_tell 31 = .ok (.aload_n 0, 1) := by decide +kernel
theorem dX11_tell_32 : decode cX11_tell 32 = .ok (.iconst 2, 1) := by decide +kernel
theorem dX11_tell_33 : decode cX11_tell 33 = .ok (.invokevirtual 237, 3) := by decide +kernel
theorem dX11_tell_36 : decode cX11_tell 36 = .ok (.aload_n 0, 1) := by decide +kernel
theorem dX11_tell_37 : decode cX11_tell 37 = .ok (.iconst 1, 1) := by decide +kernel
theorem dX11_tell_38 : decode cX11_tell 38 = .ok (.invokevirtual 237, 3) := by decide +kernel
theorem dX11_tell_41 : decode cX11_tell 41 = .ok (.iload_n 2, 1) := by decide +kernel
theorem dX11_tell_42 : decode cX11_tell 42 = .ok (.iconst 2, 1) := by decide +kernel
theorem dX11_tell_43 : decode cX11_tell 43 = .ok (.if_icmp .ne 8, 3) := by decide +kernel
theorem dX11_tell_46 : decode cX11_tell 46 = .ok (.aload_n 0, 1) := by decide +kernel
theorem dX11_tell_47 : decode cX11_tell 47 = .ok (.iconst 1, 1) := by decide +kernel
theorem dX11_tell_48 : decode cX11_tell 48 = .ok (.invokevirtual 237, 3) := by decide +kernel
theorem dX11_tell_51 : decode cX11_tell 51 = .ok (.aload_n 0, 1) := by decide +kernel
theorem dX11_tell_52 : decode cX11_tell 52 = .ok (.getfield 16, 3) := by decide +kernel
theorem dX11_tell_55 : decode cX11_tell 55 = .ok (.iload_n 1, 1) := by decide +kernel
theorem dX11_tell_56 : decode cX11_tell 56 = .ok (.iaload, 1) := by decide +kernel
theorem dX11_tell_57 : decode cX11_tell 57 = .ok (.istore_n 3, 1) := by decide +kernel
theorem dX11_tell_58 : decode cX11_tell 58 = .ok (.iload_n 2, 1) := by decide +kernel
theorem dX11_tell_59 : decode cX11_tell 59 = .ok (.ifCond .ne 7, 3) := by decide +kernel
theorem dX11_tell_62 : decode cX11_tell 62 = .ok (.iload_n 3, 1) := by decide +kernel
theorem dX11_tell_63 : decode cX11_tell 63 = .ok (.goto 21, 3) := by decide +kernel
theorem dX11_tell_66 : decode cX11_tell 66 = .ok (.iload_n 2, 1) := by decide +kernel
theorem dX11_tell_67 : decode cX11_tell 67 = .ok (.iconst 1, 1) := by decide +kernel
theorem dX11_tell_68 : decode cX11_tell 68 = .ok (.if_icmp .ne 10, 3) := by decide +kernel
theorem dX11_tell_71 : decode cX11_tell 71 = .ok (.iload_n 3, 1) := by decide +kernel
theorem dX11_tell_72 : decode cX11_tell 72 = .ok (.bipush 100, 2) := by decide +kernel
theorem dX11_tell_74 : decode cX11_tell 74 = .ok (.iadd, 1) := by decide +kernel
theorem dX11_tell_75 : decode cX11_tell 75 = .ok (.goto 9, 3) := by decide +kernel
theorem dX11_tell_78 : decode cX11_tell 78 = .ok (.iconst 2, 1) := by decide +kernel
theorem dX11_tell_79 : decode cX11_tell 79 = .ok (.iload_n 3, 1) := by decide +kernel
theorem dX11_tell_80 : decode cX11_tell 80 = .ok (.imul, 1) := by decide +kernel
theorem dX11_tell_81 : decode cX11_tell 81 = .ok (.bipush 100, 2) := by decide +kernel
theorem dX11_tell_83 : decode cX11_tell 83 = .ok (.iadd, 1) := by decide +kernel
theorem dX11_tell_84 : decode cX11_tell 84 = .ok (.ireturn, 1) := by decide +kernel
set_option maxRecDepth 20000 in
theorem ggX11_greet_X11_noSleeper : GoodIn wsX11_greet wsX11_noSleeper := goodIn_r _ [6, 7, 8, 9, 5, 10, 16, 17, 18, 19, 20, 21, 22, 23, 24, 25, 26, 27, 28, 29, 30, 31, 32, 33, 34, 35, 36, 37, 38, 39, 40, 41, 42, 43, 44, 45, 46] (by decide +kernel) (by decide +kernel)
set_option maxRecDepth 20000 in
theorem gX11_greet_X11_noSleeper : GoodIn wsX11_greet (wsV RX11 150 RX11 yX11_noSleeper wsX11_noSleeper) := goodIn_app (goodIn_of _ (by decide +kernel)) ggX11_greet_X11_noSleeper
set_option maxRecDepth 20000 in
theorem ggX11_greet_X11_traced : GoodIn wsX11_greet wsX11_traced := goodIn_r _ [14, 15, 16, 17, 18, 19, 20, 21, 22, 23, 24, 25, 26, 27, 28, 29, 30, 31, 32, 33, 34, 35, 36, 37, 38, 39, 40, 41, 42, 43, 44, 45, 46] (by decide +kernel) (by decide +kernel)
set_option maxRecDepth 20000 in
theorem gX11_greet_X11_traced : GoodIn wsX11_greet (wsV RX11 237 RX11 yX11_traced wsX11_traced) := goodIn_app (goodIn_of _ (by decide +kernel)) ggX11_greet_X11_traced
theorem dX11_greet_0 : decode cX11_greet 0 = .ok (.aload_n 0, 1) := by decide +kernel
theorem dX11_greet_1 : decode cX11_greet 1 = .ok (.iload_n 1, 1) := by decide +kernel
theorem dX11_greet_2 : decode cX11_greet 2 = .ok (.invokevirtual 150, 3) := by decide +kernel
theorem dX11_greet_5 : decode cX11_greet 5 = .ok (.ifCond .eq 5, 3) := by decide +kernel
theorem dX11_greet_8 : decode cX11_greet 8 = .ok (.iconst (-1), 1) := by decide +kernel
theorem dX11_greet_9 : decode cX11_greet 9 = .ok (.ireturn, 1) := by decide +kernel
theorem dX11_greet_10 : decode cX11_greet 10 = .ok (.aload_n 0, 1) := by decide +kernel
theorem dX11_greet_11 : decode cX11_greet 11 = .ok (.aload_n 0, 1) := by decide +kernel
theorem dX11_greet_12 : decode cX11_greet 12 = .ok (.getfield 7, 3) := by decide +kernel
theorem dX11_greet_15 : decode cX11_greet 15 = .ok (.iload_n 1, 1) := by decide +kernel
theorem dX11_greet_16 : decode cX11_greet 16 = .ok (.iaload, 1) := by decide +kernel
theorem dX11_greet_17 : decode cX11_greet 17 = .ok (.iconst 2, 1) := by decide +kernel
theorem dX11_greet_18 : decode cX11_greet 18 = .ok (.if_icmp .ne 7, 3) := by decide +kernel
theorem dX11_greet_21 : decode cX11_greet 21 = .ok (.iconst 5, 1) := by decide +kernel
theorem dX11_greet_22 : decode cX11_greet 22 = .ok (.goto 4, 3) := by decide +kernel
theorem dX11_greet_25 : decode cX11_greet 25 = .ok (.iconst 4, 1) := by decide +kernel
theorem dX11_greet_26 : decode cX11_greet 26 = .ok (.invokevirtual 237, 3) := by decide +kernel
theorem dX11_greet_29 : decode cX11_greet 29 = .ok (.aload_n 0, 1) := by decide +kernel
theorem dX11_greet_30 : decode cX11_greet 30 = .ok (.getfield 7, 3) := by decide +kernel
theorem dX11_greet_33 : decode cX11_greet 33 = .ok (.iload_n 1, 1) := by decide +kernel
theorem dX11_greet_34 : decode cX11_greet 34 = .ok (.iaload, 1) := by decide +kernel
theorem dX11_greet_35 : decode cX11_greet 35 = .ok (.iconst 2, 1) := by decide +kernel
theorem dX11_greet_36 : decode cX11_greet 36 = .ok (.if_icmp .ne 8, 3) := by decide +kernel
theorem dX11_greet_39 : decode cX11_greet 39 = .ok (.bipush 60, 2) := by decide +kernel
theorem dX11_greet_41 : decode cX11_greet 41 = .ok (.goto 4, 3) := by decide +kernel
theorem dX11_greet_44 : decode cX11_greet 44 = .ok (.iload_n 1, 1) := by decide +kernel
theorem dX11_greet_45 : decode cX11_greet 45 = .ok (.ireturn, 1) := by decide +kernel
set_option maxRecDepth 20000 in
theorem ggX11_as_X11_noSleeper : GoodIn wsX11_as wsX11_noSleeper := goodIn_r _ [7, 8, 9, 10, 6, 11, 21, 22, 23, 24, 25, 26, 27, 28, 29, 30, 31, 32, 33, 34, 35, 36, 37, 38, 39, 40, 41, 42, 43, 44, 45, 46, 47, 48, 49, 50, 51] (by decide +kernel) (by decide +kernel)
set_option maxRecDepth 20000 in
theorem gX11_as_X11_noSleeper : GoodIn wsX11_as (wsV RX11 150 RX11 yX11_noSleeper wsX11_noSleeper) := goodIn_app (goodIn_of _ (by decide +kernel)) ggX11_as_X11_noSleeper
set_option maxRecDepth 20000 in
theorem ggX11_as_X11_refused : GoodIn wsX11_as wsX11_refused := goodIn_r _ [15, 16, 21, 22, 23, 24, 25, 26, 27, 28, 29, 30, 31, 32, 33, 34, 35, 36, 37, 38, 39, 40, 41, 42, 43, 44, 45, 46, 47, 48, 49, 50, 51] (by decide +kernel) (by decide +kernel)
set_option maxRecDepth 20000 in
theorem gX11_as_X11_refused : GoodIn wsX11_as (wsV RX11 129 RX11 yX11_refused wsX11_refused) := goodIn_app (goodIn_of _ (by decide +kernel)) ggX11_as_X11_refused
set_option maxRecDepth 20000 in
theorem ggX11_as_X11_in : GoodIn wsX11_as wsX11_in := goodIn_r _ [11] (by decide +kernel) (by decide +kernel)
set_option maxRecDepth 20000 in
theorem gX11_as_X11_in : GoodIn wsX11_as (va_wsS RX11 93 yX11_in wsX11_in) := goodIn_app (goodIn_of _ (by decide +kernel)) ggX11_as_X11_in
set_option maxRecDepth 20000 in
theorem ggX11_as_X11_failed : GoodIn wsX11_as wsX11_failed := goodIn_r _ [20, 16, 21, 22, 23, 24, 25, 26, 27, 28, 29, 30, 31, 32, 33, 34, 35, 36, 37, 38, 39, 40, 41, 42, 43, 44, 45, 46, 47, 48, 49, 50, 51] (by decide +kernel) (by decide +kernel)
set_option maxRecDepth 20000 in
theorem gX11_as_X11_failed : GoodIn wsX11_as (wsV RX11 117 RX11 yX11_failed wsX11_failed) := goodIn_app (goodIn_of _ (by decide +kernel)) ggX11_as_X11_failed
theorem dX11_as_0 : decode cX11_as 0 = .ok (.aload_n 0, 1) := by decide +kernel
theorem dX11_as_1 : decode cX11_as 1 = .ok (.iload_n 1, 1) := by decide +kernel
theorem dX11_as_2 : decode cX11_as 2 = .ok (.invokevirtual 150, 3) := by decide +kernel
theorem dX11_as_5 : decode cX11_as 5 = .ok (.ifCond .eq 9, 3) := by decide +kernel
theorem dX11_as_8 : decode cX11_as 8 = .ok (.aload_n 0, 1) := by decide +kernel
theorem dX11_as_9 : decode cX11_as 9 = .ok (.iconst (-1), 1) := by decide +kernel
theorem dX11_as_10 : decode cX11_as 10 = .ok (.invokevirtual 129, 3) := by decide +kernel
theorem dX11_as_13 : decode cX11_as 13 = .ok (.ireturn, 1) := by decide +kernel
theorem dX11_as_14 : decode cX11_as 14 = .ok (.iload_n 2, 1) := by decide +kernel
theorem dX11_as_15 : decode cX11_as 15 = .ok (.i2l, 1) := by decide +kernel
theorem dX11_as_16 : decode cX11_as 16 = .ok (.lconst 0, 1) := by decide +kernel
theorem dX11_as_17 : decode cX11_as 17 = .ok (.ldc2_w 132, 3) := by decide +kernel
theorem dX11_as_20 : decode cX11_as 20 = .ok (.invokestatic 93, 3) := by decide +kernel
theorem dX11_as_23 : decode cX11_as 23 = .ok (.ifCond .ne 10, 3) := by decide +kernel
theorem dX11_as_26 : decode cX11_as 26 = .ok (.aload_n 0, 1) := by decide +kernel
theorem dX11_as_27 : decode cX11_as 27 = .ok (.bipush (-2), 2) := by decide +kernel
theorem dX11_as_29 : decode cX11_as 29 = .ok (.invokevirtual 129, 3) := by decide +kernel
theorem dX11_as_32 : decode cX11_as 32 = .ok (.ireturn, 1) := by decide +kernel
theorem dX11_as_33 : decode cX11_as 33 = .ok (.aload_n 0, 1) := by decide +kernel
theorem dX11_as_34 : decode cX11_as 34 = .ok (.getfield 7, 3) := by decide +kernel
theorem dX11_as_37 : decode cX11_as 37 = .ok (.iload_n 1, 1) := by decide +kernel
theorem dX11_as_38 : decode cX11_as 38 = .ok (.iaload, 1) := by decide +kernel
theorem dX11_as_39 : decode cX11_as 39 = .ok (.iload_n 2, 1) := by decide +kernel
theorem dX11_as_40 : decode cX11_as 40 = .ok (.if_icmp .lt 11, 3) := by decide +kernel
theorem dX11_as_43 : decode cX11_as 43 = .ok (.aload_n 0, 1) := by decide +kernel
theorem dX11_as_44 : decode cX11_as 44 = .ok (.iconst 1, 1) := by decide +kernel
theorem dX11_as_45 : decode cX11_as 45 = .ok (.invokevirtual 129, 3) := by decide +kernel
theorem dX11_as_48 : decode cX11_as 48 = .ok (.goto 8, 3) := by decide +kernel
theorem dX11_as_51 : decode cX11_as 51 = .ok (.aload_n 0, 1) := by decide +kernel
theorem dX11_as_52 : decode cX11_as 52 = .ok (.iconst 2, 1) := by decide +kernel
theorem dX11_as_53 : decode cX11_as 53 = .ok (.invokevirtual 117, 3) := by decide +kernel
theorem dX11_as_56 : decode cX11_as 56 = .ok (.ireturn, 1) := by decide +kernel
theorem dX11_trace_0 : decode cX11_trace 0 = .ok (.aload_n 0, 1) := by decide +kernel
theorem dX11_trace_1 : decode cX11_trace 1 = .ok (.getfield 234, 3) := by decide +kernel
theorem dX11_trace_4 : decode cX11_trace 4 = .ok (.ireturn, 1) := by decide +kernel
theorem dX11_fault_0 : decode cX11_fault 0 = .ok (.aload_n 0, 1) := by decide +kernel
theorem dX11_fault_1 : decode cX11_fault 1 = .ok (.getfield 82, 3) := by decide +kernel
theorem dX11_fault_4 : decode cX11_fault 4 = .ok (.ireturn, 1) := by decide +kernel
theorem dX11_many_0 : decode cX11_many 0 = .ok (.iload_n 1, 1) := by decide +kernel
theorem dX11_many_1 : decode cX11_many 1 = .ok (.tableswitch 51 0 3 #[31, 36, 41, 46], 31) := by decide +kernel
theorem dX11_many_32 : decode cX11_many 32 = .ok (.aload_n 0, 1) := by decide +kernel
theorem dX11_many_33 : decode cX11_many 33 = .ok (.getfield 90, 3) := by decide +kernel
theorem dX11_many_36 : decode cX11_many 36 = .ok (.ireturn, 1) := by decide +kernel
theorem dX11_many_37 : decode cX11_many 37 = .ok (.aload_n 0, 1) := by decide +kernel
theorem dX11_many_38 : decode cX11_many 38 = .ok (.getfield 144, 3) := by decide +kernel
theorem dX11_many_41 : decode cX11_many 41 = .ok (.ireturn, 1) := by decide +kernel
theorem dX11_many_42 : decode cX11_many 42 = .ok (.aload_n 0, 1) := by decide +kernel
theorem dX11_many_43 : decode cX11_many 43 = .ok (.getfield 147, 3) := by decide +kernel
theorem dX11_many_46 : decode cX11_many 46 = .ok (.ireturn, 1) := by decide +kernel
theorem dX11_many_47 : decode cX11_many 47 = .ok (.aload_n 0, 1) := by decide +kernel
theorem dX11_many_48 : decode cX11_many 48 = .ok (.getfield 141, 3) := by decide +kernel
theorem dX11_many_51 : decode cX11_many 51 = .ok (.ireturn, 1) := by decide +kernel
theorem dX11_many_52 : decode cX11_many 52 = .ok (.bipush (-2), 2) := by decide +kernel
theorem dX11_many_54 : decode cX11_many 54 = .ok (.ireturn, 1) := by decide +kernel
theorem dJ6_bitCount_0f7a4_0 : decode cJ6_bitCount_0f7a4 0 = .ok (.iload_n 0, 1) := by decide +kernel
theorem dJ6_bitCount_0f7a4_1 : decode cJ6_bitCount_0f7a4 1 = .ok (.iload_n 0, 1) := by decide +kernel
theorem dJ6_bitCount_0f7a4_2 : decode cJ6_bitCount_0f7a4 2 = .ok (.iconst 1, 1) := by decide +kernel
theorem dJ6_bitCount_0f7a4_3 : decode cJ6_bitCount_0f7a4 3 = .ok (.iushr, 1) := by decide +kernel
theorem dJ6_bitCount_0f7a4_4 : decode cJ6_bitCount_0f7a4 4 = .ok (.ldc_w 265, 3) := by decide +kernel
theorem dJ6_bitCount_0f7a4_7 : decode cJ6_bitCount_0f7a4 7 = .ok (.iand, 1) := by decide +kernel
theorem dJ6_bitCount_0f7a4_8 : decode cJ6_bitCount_0f7a4 8 = .ok (.isub, 1) := by decide +kernel
theorem dJ6_bitCount_0f7a4_9 : decode cJ6_bitCount_0f7a4 9 = .ok (.istore_n 0, 1) := by decide +kernel
theorem dJ6_bitCount_0f7a4_10 : decode cJ6_bitCount_0f7a4 10 = .ok (.iload_n 0, 1) := by decide +kernel
theorem dJ6_bitCount_0f7a4_11 : decode cJ6_bitCount_0f7a4 11 = .ok (.ldc_w 266, 3) := by decide +kernel
theorem dJ6_bitCount_0f7a4_14 : decode cJ6_bitCount_0f7a4 14 = .ok (.iand, 1) := by decide +kernel
theorem dJ6_bitCount_0f7a4_15 : decode cJ6_bitCount_0f7a4 15 = .ok (.iload_n 0, 1) := by decide +kernel
theorem dJ6_bitCount_0f7a4_16 : decode cJ6_bitCount_0f7a4 16 = .ok (.iconst 2, 1) := by decide +kernel
theorem dJ6_bitCount_0f7a4_17 : decode cJ6_bitCount_0f7a4 17 = .ok (.iushr, 1) := by decide +kernel
theorem dJ6_bitCount_0f7a4_18 : decode cJ6_bitCount_0f7a4 18 = .ok (.ldc_w 266, 3) := by decide +kernel
theorem dJ6_bitCount_0f7a4_21 : decode cJ6_bitCount_0f7a4 21 = .ok (.iand, 1) := by decide +kernel
theorem dJ6_bitCount_0f7a4_22 : decode cJ6_bitCount_0f7a4 22 = .ok (.iadd, 1) := by decide +kernel
theorem dJ6_bitCount_0f7a4_23 : decode cJ6_bitCount_0f7a4 23 = .ok (.istore_n 0, 1) := by decide +kernel
theorem dJ6_bitCount_0f7a4_24 : decode cJ6_bitCount_0f7a4 24 = .ok (.iload_n 0, 1) := by decide +kernel
theorem dJ6_bitCount_0f7a4_25 : decode cJ6_bitCount_0f7a4 25 = .ok (.iload_n 0, 1) := by decide +kernel
theorem dJ6_bitCount_0f7a4_26 : decode cJ6_bitCount_0f7a4 26 = .ok (.iconst 4, 1) := by decide +kernel
theorem dJ6_bitCount_0f7a4_27 : decode cJ6_bitCount_0f7a4 27 = .ok (.iushr, 1) := by decide +kernel
theorem dJ6_bitCount_0f7a4_28 : decode cJ6_bitCount_0f7a4 28 = .ok (.iadd, 1) := by decide +kernel
theorem dJ6_bitCount_0f7a4_29 : decode cJ6_bitCount_0f7a4 29 = .ok (.ldc_w 267, 3) := by decide +kernel
theorem dJ6_bitCount_0f7a4_32 : decode cJ6_bitCount_0f7a4 32 = .ok (.iand, 1) := by decide +kernel
theorem dJ6_bitCount_0f7a4_33 : decode cJ6_bitCount_0f7a4 33 = .ok (.istore_n 0, 1) := by decide +kernel
theorem dJ6_bitCount_0f7a4_34 : decode cJ6_bitCount_0f7a4 34 = .ok (.iload_n 0, 1) := by decide +kernel
theorem dJ6_bitCount_0f7a4_35 : decode cJ6_bitCount_0f7a4 35 = .ok (.iload_n 0, 1) := by decide +kernel
theorem dJ6_bitCount_0f7a4_36 : decode cJ6_bitCount_0f7a4 36 = .ok (.bipush 8, 2) := by decide +kernel
theorem dJ6_bitCount_0f7a4_38 : decode cJ6_bitCount_0f7a4 38 = .ok (.iushr, 1) := by decide +kernel
theorem dJ6_bitCount_0f7a4_39 : decode cJ6_bitCount_0f7a4 39 = .ok (.iadd, 1) := by decide +kernel
theorem dJ6_bitCount_0f7a4_40 : decode cJ6_bitCount_0f7a4 40 = .ok (.istore_n 0, 1) := by decide +kernel
theorem dJ6_bitCount_0f7a4_41 : decode cJ6_bitCount_0f7a4 41 = .ok (.iload_n 0, 1) := by decide +kernel
theorem dJ6_bitCount_0f7a4_42 : decode cJ6_bitCount_0f7a4 42 = .ok (.iload_n 0, 1) := by decide +kernel
theorem dJ6_bitCount_0f7a4_43 : decode cJ6_bitCount_0f7a4 43 = .ok (.bipush 16, 2) := by decide +kernel
theorem dJ6_bitCount_0f7a4_45 : decode cJ6_bitCount_0f7a4 45 = .ok (.iushr, 1) := by decide +kernel
theorem dJ6_bitCount_0f7a4_46 : decode cJ6_bitCount_0f7a4 46 = .ok (.iadd, 1) := by decide +kernel
theorem dJ6_bitCount_0f7a4_47 : decode cJ6_bitCount_0f7a4 47 = .ok (.istore_n 0, 1) := by decide +kernel
theorem dJ6_bitCount_0f7a4_48 : decode cJ6_bitCount_0f7a4 48 = .ok (.iload_n 0, 1) := by decide +kernel
theorem dJ6_bitCount_0f7a4_49 : decode cJ6_bitCount_0f7a4 49 = .ok (.bipush 63, 2) := by decide +kernel
theorem dJ6_bitCount_0f7a4_51 : decode cJ6_bitCount_0f7a4 51 = .ok (.iand, 1) := by decide +kernel
theorem dJ6_bitCount_0f7a4_52 : decode cJ6_bitCount_0f7a4 52 = .ok (.ireturn, 1) := by decide +kernel
theorem dJ9_min_7cf53_0 : decode cJ9_min_7cf53 0 = .ok (.iload_n 0, 1) := by decide +kernel
theorem dJ9_min_7cf53_1 : decode cJ9_min_7cf53 1 = .ok (.iload_n 1, 1) := by decide +kernel
theorem dJ9_min_7cf53_2 : decode cJ9_min_7cf53 2 = .ok (.if_icmp .gt 7, 3) := by decide +kernel
theorem dJ9_min_7cf53_5 : decode cJ9_min_7cf53 5 = .ok (.iload_n 0, 1) := by decide +kernel
theorem dJ9_min_7cf53_6 : decode cJ9_min_7cf53 6 = .ok (.goto 4, 3) := by decide +kernel
theorem dJ9_min_7cf53_9 : decode cJ9_min_7cf53 9 = .ok (.iload_n 1, 1) := by decide +kernel
theorem dJ9_min_7cf53_10 : decode cJ9_min_7cf53 10 = .ok (.ireturn, 1) := by decide +kernel
theorem dJ7_fill_53178_0 : decode cJ7_fill_53178 0 = .ok (.iconst 0, 1) := by decide +kernel
theorem dJ7_fill_53178_1 : decode cJ7_fill_53178 1 = .ok (.istore_n 2, 1) := by decide +kernel
theorem dJ7_fill_53178_2 : decode cJ7_fill_53178 2 = .ok (.aload_n 0, 1) := by decide +kernel
theorem dJ7_fill_53178_3 : decode cJ7_fill_53178 3 = .ok (.arraylength, 1) := by decide +kernel
theorem dJ7_fill_53178_4 : decode cJ7_fill_53178 4 = .ok (.istore_n 3, 1) := by decide +kernel
theorem dJ7_fill_53178_5 : decode cJ7_fill_53178 5 = .ok (.iload_n 2, 1) := by decide +kernel
theorem dJ7_fill_53178_6 : decode cJ7_fill_53178 6 = .ok (.iload_n 3, 1) := by decide +kernel
theorem dJ7_fill_53178_7 : decode cJ7_fill_53178 7 = .ok (.if_icmp .ge 13, 3) := by decide +kernel
theorem dJ7_fill_53178_10 : decode cJ7_fill_53178 10 = .ok (.aload_n 0, 1) := by decide +kernel
theorem dJ7_fill_53178_11 : decode cJ7_fill_53178 11 = .ok (.iload_n 2, 1) := by decide +kernel
theorem dJ7_fill_53178_12 : decode cJ7_fill_53178 12 = .ok (.iload_n 1, 1) := by decide +kernel
theorem dJ7_fill_53178_13 : decode cJ7_fill_53178 13 = .ok (.iastore, 1) := by decide +kernel
theorem dJ7_fill_53178_14 : decode cJ7_fill_53178 14 = .ok (.iinc 2 1, 3) := by decide +kernel
theorem dJ7_fill_53178_17 : decode cJ7_fill_53178 17 = .ok (.goto (-12), 3) := by decide +kernel
theorem dJ7_fill_53178_20 : decode cJ7_fill_53178 20 = .ok (.return_, 1) := by decide +kernel
set_option maxRecDepth 20000 in
theorem ggL_law_X10_init : GoodIn wsL_law wsX10_init := goodIn_r _ [8, 9, 10, 11, 12, 13, 14, 15, 16, 17, 18, 19, 20, 21, 22, 23, 24, 25, 26, 27, 28, 29, 30, 31, 32, 33, 34, 35, 36, 37, 38, 39, 40, 41, 42, 43, 44, 45, 46, 47, 48, 49, 50, 51, 52, 53, 54, 55, 56, 57, 58, 59, 60, 61, 62, 63, 64, 65, 66, 67, 68, 69, 70, 71, 72, 73, 74, 75, 76, 77, 78, 79, 80, 81, 82, 83, 84, 85, 86, 902, 903, 904, 905, 906, 907, 908, 909, 941, 942, 943, 944, 945, 946, 947, 948, 949, 950, 951, 952, 953, 954, 955, 956, 957, 958, 959, 960, 961, 962, 963, 964, 965, 966] (by decide +kernel) (by decide +kernel)
set_option maxRecDepth 20000 in
theorem gL_law_X10_init : GoodIn wsL_law (wsX10_init) := ggL_law_X10_init
set_option maxRecDepth 20000 in
theorem ggL_law_X11_init : GoodIn wsL_law wsX11_init := goodIn_r _ [89, 90, 10, 11, 36, 91, 92, 93, 94, 95, 96, 97, 98, 99, 100, 101, 102, 103, 104, 105, 106, 107, 108, 109, 110, 111, 112, 113, 114, 910, 911, 912, 913, 914, 915, 916, 917, 918, 919, 920, 921, 922, 923, 924, 925, 926, 927, 928, 929, 930, 931, 932, 933, 934, 935, 936, 937, 938, 939, 940] (by decide +kernel) (by decide +kernel)
set_option maxRecDepth 20000 in
theorem gL_law_X11_init : GoodIn wsL_law (wsX11_init) := ggL_law_X11_init
set_option maxRecDepth 20000 in
theorem ggL_law_X10_ship : GoodIn wsL_law wsX10_ship := goodIn_r _ [118, 38, 119, 19, 31, 120, 121, 122, 123, 2, 124, 13, 125, 126, 127, 128, 129, 130, 131, 132, 133, 134, 15, 135, 136, 137, 138, 139, 43, 140, 141, 142, 143, 144, 145, 146, 147, 44, 148, 149, 150, 151, 152, 153, 154, 155, 156, 157, 158, 159, 160, 161, 18, 162, 54, 49, 50, 51, 55, 163, 164, 165, 166, 167, 168, 169, 170, 171, 172, 173, 174, 175, 176, 177, 178, 179, 180, 181, 10, 11, 182, 183, 184, 185, 186, 187, 188, 189, 190, 191, 192, 193, 52, 194, 53, 195, 196, 197, 198, 199, 200, 201, 202, 203, 204, 205, 206, 207, 208, 209, 210, 211, 212, 213, 214, 215, 216, 217, 218, 219, 30, 220, 81, 82, 902, 903, 904, 905, 906, 907, 908, 909, 941, 942, 943, 944, 945, 946, 947, 948, 949, 950, 967, 968, 969, 970, 971, 972, 973, 974, 975, 958, 959, 960, 961, 962, 963, 964, 965] (by decide +kernel) (by decide +kernel)
set_option maxRecDepth 20000 in
theorem gL_law_X10_ship : GoodIn wsL_law (wsV RL 13 RX10 yX10_ship wsX10_ship) := goodIn_app (goodIn_of _ (by decide +kernel)) ggL_law_X10_ship
set_option maxRecDepth 20000 in
theorem ggL_law_X11_ship : GoodIn wsL_law wsX11_ship := goodIn_r _ [224, 225, 226, 227, 228, 91, 98, 92, 99, 93, 100, 94, 95, 229, 230, 231, 232, 233, 5, 234, 235, 236, 237, 238, 239, 240, 241, 242, 243, 244, 245, 246, 247, 111, 112, 248, 249, 250, 251, 252, 253, 254, 255, 256, 257, 258, 259, 260, 261, 262, 113, 263, 264, 265, 266, 267, 268, 269, 270, 910, 911, 912, 913, 914, 915, 916, 917, 918, 919, 920, 921, 922, 923, 924, 925, 926, 927, 928, 929, 930, 931, 932, 933, 934, 935, 936, 937, 938, 939, 940] (by decide +kernel) (by decide +kernel)
set_option maxRecDepth 20000 in
theorem gL_law_X11_ship : GoodIn wsL_law (wsV RL 17 RX11 yX11_ship wsX11_ship) := goodIn_app (goodIn_of _ (by decide +kernel)) ggL_law_X11_ship
set_option maxRecDepth 20000 in
theorem ggL_law_X10_ofSleeper : GoodIn wsL_law wsX10_ofSleeper := goodIn_r _ [274, 19, 275, 276, 277, 278, 279, 18, 280, 49, 281, 282, 283, 284, 54, 285, 286, 287, 288, 289, 168, 290, 291, 292, 293, 171, 294, 295, 296, 297, 174, 298, 196, 197, 198, 199, 200, 201, 202, 203, 204, 205, 206, 207, 208, 209, 210, 299, 212, 902, 903, 904, 905, 906, 907, 908, 909, 967, 968, 969, 970, 971, 972, 973, 974, 975, 944, 945, 946, 947, 948, 949, 950] (by decide +kernel) (by decide +kernel)
set_option maxRecDepth 20000 in
theorem gL_law_X10_ofSleeper : GoodIn wsL_law (wsV RL 18 RX10 yX10_ofSleeper wsX10_ofSleeper) := goodIn_app (goodIn_of _ (by decide +kernel)) ggL_law_X10_ofSleeper
set_option maxRecDepth 20000 in
theorem ggL_law_X11_ofSleeper : GoodIn wsL_law wsX11_ofSleeper := goodIn_r _ [303, 91, 92, 93, 304, 305, 306, 5, 307, 228, 236, 237, 238, 308, 309, 310, 311, 910, 911, 912, 913, 914, 915, 916, 917, 918, 919, 920, 921, 922, 923, 924, 925, 926, 927, 928, 929, 930, 931, 932, 933, 934, 935, 936, 937, 938, 939, 940] (by decide +kernel) (by decide +kernel)
set_option maxRecDepth 20000 in
theorem gL_law_X11_ofSleeper : GoodIn wsL_law (wsV RL 22 RX11 yX11_ofSleeper wsX11_ofSleeper) := goodIn_app (goodIn_of _ (by decide +kernel)) ggL_law_X11_ofSleeper
set_option maxRecDepth 20000 in
theorem ggL_law_X10_up : GoodIn wsL_law wsX10_up := goodIn_r _ [315, 19, 316, 317, 282, 283, 18, 284, 54, 318, 319, 2, 320, 902, 903, 904, 905, 906, 907, 908, 909, 944, 945, 946, 947, 948, 949, 950] (by decide +kernel) (by decide +kernel)
set_option maxRecDepth 20000 in
theorem gL_law_X10_up : GoodIn wsL_law (wsV RL 23 RX10 yX10_up wsX10_up) := goodIn_app (goodIn_of _ (by decide +kernel)) ggL_law_X10_up
set_option maxRecDepth 20000 in
theorem ggL_law_X11_up : GoodIn wsL_law wsX11_up := goodIn_r _ [324, 94, 304, 305, 306, 5, 307, 228, 236, 237, 238, 325, 326, 327, 328, 329, 330, 331, 910, 911, 912, 913, 914, 915, 916, 917, 918, 919, 920, 921, 922, 923, 924, 925, 926, 927, 928, 929, 930, 931, 932, 933, 934, 935, 936, 937, 938, 939, 940] (by decide +kernel) (by decide +kernel)
set_option maxRecDepth 20000 in
theorem gL_law_X11_up : GoodIn wsL_law (wsV RL 27 RX11 yX11_up wsX11_up) := goodIn_app (goodIn_of _ (by decide +kernel)) ggL_law_X11_up
set_option maxRecDepth 20000 in
theorem ggL_law_X10_wants : GoodIn wsL_law wsX10_wants := goodIn_r _ [335, 19, 336, 318, 319, 2, 320, 337, 338, 339, 340, 120, 902, 903, 904, 905, 906, 907, 908, 909, 944, 945, 946, 947, 948, 949, 950] (by decide +kernel) (by decide +kernel)
set_option maxRecDepth 20000 in
theorem gL_law_X10_wants : GoodIn wsL_law (wsV RL 28 RX10 yX10_wants wsX10_wants) := goodIn_app (goodIn_of _ (by decide +kernel)) ggL_law_X10_wants
set_option maxRecDepth 20000 in
theorem ggL_law_X11_wants : GoodIn wsL_law wsX11_wants := goodIn_r _ [344, 345, 228, 95, 325, 326, 5, 327, 328, 236, 237, 238, 910, 911, 912, 913, 914, 915, 916, 917, 918, 919, 920, 921, 922, 923, 924, 925, 926, 927, 928, 929, 930, 931, 932, 933, 934, 935, 936, 937, 938, 939, 940] (by decide +kernel) (by decide +kernel)
set_option maxRecDepth 20000 in
theorem gL_law_X11_wants : GoodIn wsL_law (wsV RL 31 RX11 yX11_wants wsX11_wants) := goodIn_app (goodIn_of _ (by decide +kernel)) ggL_law_X11_wants
set_option maxRecDepth 20000 in
theorem ggL_law_X10_law : GoodIn wsL_law wsX10_law := goodIn_r _ [349, 19, 350, 337, 338, 339, 2, 340, 120, 902, 903, 904, 905, 906, 907, 908, 909, 944, 945, 946, 947, 948, 949, 950] (by decide +kernel) (by decide +kernel)
set_option maxRecDepth 20000 in
theorem gL_law_X10_law : GoodIn wsL_law (wsV RL 32 RX10 yX10_law wsX10_law) := goodIn_app (goodIn_of _ (by decide +kernel)) ggL_law_X10_law
set_option maxRecDepth 20000 in
theorem ggL_law_X11_law : GoodIn wsL_law wsX11_law := goodIn_r _ [354, 228, 229, 236, 237, 5, 238, 910, 911, 912, 913, 914, 915, 916, 917, 918, 919, 920, 921, 922, 923, 924, 925, 926, 927, 928, 929, 930, 931, 932, 933, 934, 935, 936, 937, 938, 939, 940] (by decide +kernel) (by decide +kernel)
set_option maxRecDepth 20000 in
theorem gL_law_X11_law : GoodIn wsL_law (wsV RL 36 RX11 yX11_law wsX11_law) := goodIn_app (goodIn_of _ (by decide +kernel)) ggL_law_X11_law
set_option maxRecDepth 20000 in
theorem ggL_law_X10_note : GoodIn wsL_law wsX10_note := goodIn_r _ [358, 19, 31, 317, 282, 283, 18, 284, 54, 359, 360, 361, 30, 362, 81, 75, 76, 902, 903, 904, 905, 906, 907, 908, 909, 944, 945, 946, 947, 948, 949, 950, 958, 959, 960, 961, 962, 963, 964, 965] (by decide +kernel) (by decide +kernel)
set_option maxRecDepth 20000 in
theorem gL_law_X10_note : GoodIn wsL_law (wsV RL 37 RX10 yX10_note wsX10_note) := goodIn_app (goodIn_of _ (by decide +kernel)) ggL_law_X10_note
set_option maxRecDepth 20000 in
theorem ggL_law_X11_note : GoodIn wsL_law wsX11_note := goodIn_r _ [366, 230, 96, 97, 304, 305, 306, 5, 307, 228, 236, 237, 238, 910, 911, 912, 913, 914, 915, 916, 917, 918, 919, 920, 921, 922, 923, 924, 925, 926, 927, 928, 929, 930, 931, 932, 933, 934, 935, 936, 937, 938, 939, 940] (by decide +kernel) (by decide +kernel)
set_option maxRecDepth 20000 in
theorem gL_law_X11_note : GoodIn wsL_law (wsV RL 40 RX11 yX11_note wsX11_note) := goodIn_app (goodIn_of _ (by decide +kernel)) ggL_law_X11_note
set_option maxRecDepth 20000 in
theorem ggL_law_X10_tear : GoodIn wsL_law wsX10_tear := goodIn_r _ [370, 31, 371, 902, 903, 904, 905, 906, 907, 908, 909, 958, 959, 960, 961, 962, 963, 964, 965] (by decide +kernel) (by decide +kernel)
set_option maxRecDepth 20000 in
theorem gL_law_X10_tear : GoodIn wsL_law (wsV RL 41 RX10 yX10_tear wsX10_tear) := goodIn_app (goodIn_of _ (by decide +kernel)) ggL_law_X10_tear
set_option maxRecDepth 20000 in
theorem ggL_law_X11_tear : GoodIn wsL_law wsX11_tear := goodIn_r _ [375, 230, 236, 237, 5, 238, 910, 911, 912, 913, 914, 915, 916, 917, 918, 919, 920, 921, 922, 923, 924, 925, 926, 927, 928, 929, 930, 931, 932, 933, 934, 935, 936, 937, 938, 939, 940] (by decide +kernel) (by decide +kernel)
set_option maxRecDepth 20000 in
theorem gL_law_X11_tear : GoodIn wsL_law (wsV RL 44 RX11 yX11_tear wsX11_tear) := goodIn_app (goodIn_of _ (by decide +kernel)) ggL_law_X11_tear
set_option maxRecDepth 20000 in
theorem ggL_law_X10_awake : GoodIn wsL_law wsX10_awake := goodIn_r _ [379, 19, 316, 318, 319, 2, 320, 337, 338, 339, 340, 120, 902, 903, 904, 905, 906, 907, 908, 909, 944, 945, 946, 947, 948, 949, 950] (by decide +kernel) (by decide +kernel)
set_option maxRecDepth 20000 in
theorem gL_law_X10_awake : GoodIn wsL_law (wsV RL 45 RX10 yX10_awake wsX10_awake) := goodIn_app (goodIn_of _ (by decide +kernel)) ggL_law_X10_awake
set_option maxRecDepth 20000 in
theorem ggL_law_X11_awake : GoodIn wsL_law wsX11_awake := goodIn_r _ [383, 228, 94, 325, 326, 5, 327, 328, 236, 237, 238, 910, 911, 912, 913, 914, 915, 916, 917, 918, 919, 920, 921, 922, 923, 924, 925, 926, 927, 928, 929, 930, 931, 932, 933, 934, 935, 936, 937, 938, 939, 940] (by decide +kernel) (by decide +kernel)
set_option maxRecDepth 20000 in
theorem gL_law_X11_awake : GoodIn wsL_law (wsV RL 48 RX11 yX11_awake wsX11_awake) := goodIn_app (goodIn_of _ (by decide +kernel)) ggL_law_X11_awake
set_option maxRecDepth 20000 in
theorem ggL_law_X10_harm : GoodIn wsL_law wsX10_harm := goodIn_r _ [387, 19, 23, 316, 388, 317, 282, 283, 18, 284, 54, 318, 319, 2, 320, 389, 390, 391, 22, 392, 64, 393, 394, 395, 396, 397, 398, 60, 61, 399, 400, 62, 63, 401, 402, 403, 404, 405, 406, 407, 408, 409, 410, 411, 412, 413, 414, 415, 416, 417, 418, 419, 420, 196, 197, 198, 199, 168, 200, 201, 202, 203, 174, 204, 205, 206, 171, 207, 208, 209, 210, 421, 212, 902, 903, 904, 905, 906, 907, 908, 909, 944, 945, 946, 947, 948, 949, 950, 951, 952, 953, 954, 955, 967, 968, 969, 970, 971, 972, 973, 974, 975] (by decide +kernel) (by decide +kernel)
set_option maxRecDepth 20000 in
theorem gL_law_X10_harm : GoodIn wsL_law (wsV RL 49 RX10 yX10_harm wsX10_harm) := goodIn_app (goodIn_of _ (by decide +kernel)) ggL_law_X10_harm
set_option maxRecDepth 20000 in
theorem ggL_law_X11_harm : GoodIn wsL_law wsX11_harm := goodIn_r _ [425, 103, 304, 305, 306, 5, 307, 228, 236, 237, 238, 325, 326, 327, 328, 426, 427, 428, 429, 430, 431, 432, 433, 101, 94, 434, 435, 436, 437, 229, 102, 92, 438, 439, 440, 441, 329, 330, 331, 442, 443, 444, 445, 308, 309, 310, 311, 91, 910, 911, 912, 913, 914, 915, 916, 917, 918, 919, 920, 921, 922, 923, 924, 925, 926, 927, 928, 929, 930, 931, 932, 933, 934, 935, 936, 937, 938, 939, 940] (by decide +kernel) (by decide +kernel)
set_option maxRecDepth 20000 in
theorem gL_law_X11_harm : GoodIn wsL_law (wsV RL 52 RX11 yX11_harm wsX11_harm) := goodIn_app (goodIn_of _ (by decide +kernel)) ggL_law_X11_harm
set_option maxRecDepth 20000 in
theorem ggL_law_X10_skills : GoodIn wsL_law wsX10_skills := goodIn_r _ [449, 19, 23, 316, 450, 317, 282, 283, 18, 284, 54, 318, 319, 2, 320, 389, 390, 391, 22, 392, 64, 393, 394, 395, 396, 397, 398, 60, 61, 399, 400, 62, 63, 401, 402, 403, 404, 405, 406, 407, 408, 409, 410, 411, 412, 413, 414, 415, 416, 417, 418, 419, 420, 196, 197, 198, 199, 168, 200, 201, 202, 203, 174, 204, 205, 206, 171, 207, 208, 209, 210, 421, 212, 902, 903, 904, 905, 906, 907, 908, 909, 944, 945, 946, 947, 948, 949, 950, 951, 952, 953, 954, 955, 967, 968, 969, 970, 971, 972, 973, 974, 975] (by decide +kernel) (by decide +kernel)
set_option maxRecDepth 20000 in
theorem gL_law_X10_skills : GoodIn wsL_law (wsV RL 53 RX10 yX10_skills wsX10_skills) := goodIn_app (goodIn_of _ (by decide +kernel)) ggL_law_X10_skills
set_option maxRecDepth 20000 in
theorem ggL_law_X11_skills : GoodIn wsL_law wsX11_skills := goodIn_r _ [454, 102, 304, 305, 306, 5, 307, 228, 236, 237, 238, 325, 326, 327, 328, 426, 427, 428, 429, 430, 431, 432, 433, 101, 94, 434, 435, 436, 437, 229, 92, 103, 438, 439, 440, 441, 329, 330, 331, 442, 443, 444, 445, 308, 309, 310, 311, 91, 910, 911, 912, 913, 914, 915, 916, 917, 918, 919, 920, 921, 922, 923, 924, 925, 926, 927, 928, 929, 930, 931, 932, 933, 934, 935, 936, 937, 938, 939, 940] (by decide +kernel) (by decide +kernel)
set_option maxRecDepth 20000 in
theorem gL_law_X11_skills : GoodIn wsL_law (wsV RL 56 RX11 yX11_skills wsX11_skills) := goodIn_app (goodIn_of _ (by decide +kernel)) ggL_law_X11_skills
set_option maxRecDepth 20000 in
theorem ggL_law_X10_lacks : GoodIn wsL_law wsX10_lacks := goodIn_r _ [458, 23, 19, 316, 459, 318, 319, 2, 320, 337, 338, 339, 340, 120, 389, 390, 391, 22, 392, 64, 393, 394, 395, 396, 397, 398, 60, 61, 399, 400, 62, 63, 401, 402, 403, 404, 405, 406, 407, 408, 409, 410, 411, 412, 413, 414, 415, 416, 417, 418, 419, 420, 196, 197, 198, 199, 168, 200, 201, 202, 203, 174, 204, 205, 206, 171, 207, 208, 209, 210, 421, 212, 902, 903, 904, 905, 906, 907, 908, 909, 944, 945, 946, 947, 948, 949, 950, 951, 952, 953, 954, 955, 967, 968, 969, 970, 971, 972, 973, 974, 975] (by decide +kernel) (by decide +kernel)
set_option maxRecDepth 20000 in
theorem gL_law_X10_lacks : GoodIn wsL_law (wsV RL 57 RX10 yX10_lacks wsX10_lacks) := goodIn_app (goodIn_of _ (by decide +kernel)) ggL_law_X10_lacks
set_option maxRecDepth 20000 in
theorem ggL_law_X11_lacks : GoodIn wsL_law wsX11_lacks := goodIn_r _ [463, 228, 325, 326, 5, 327, 328, 236, 237, 238, 426, 427, 428, 429, 430, 431, 432, 433, 101, 94, 434, 435, 436, 437, 229, 102, 92, 103, 438, 439, 440, 441, 329, 330, 331, 442, 443, 444, 445, 308, 309, 310, 311, 91, 464, 465, 466, 467, 95, 910, 911, 912, 913, 914, 915, 916, 917, 918, 919, 920, 921, 922, 923, 924, 925, 926, 927, 928, 929, 930, 931, 932, 933, 934, 935, 936, 937, 938, 939, 940] (by decide +kernel) (by decide +kernel)
set_option maxRecDepth 20000 in
theorem gL_law_X11_lacks : GoodIn wsL_law (wsV RL 60 RX11 yX11_lacks wsX11_lacks) := goodIn_app (goodIn_of _ (by decide +kernel)) ggL_law_X11_lacks
set_option maxRecDepth 20000 in
theorem ggL_law_X10_wrong : GoodIn wsL_law wsX10_wrong := goodIn_r _ [471, 23, 19, 316, 337, 338, 339, 2, 340, 120, 472, 473, 474, 22, 475, 64, 393, 62, 394, 395, 396, 397, 398, 60, 61, 399, 400, 63, 401, 402, 403, 404, 405, 406, 407, 408, 409, 410, 411, 412, 413, 414, 415, 416, 417, 418, 419, 420, 196, 197, 198, 199, 168, 200, 201, 202, 203, 174, 204, 205, 206, 171, 207, 208, 209, 210, 421, 212, 476, 477, 478, 479, 480, 481, 902, 903, 904, 905, 906, 907, 908, 909, 944, 945, 946, 947, 948, 949, 950, 951, 952, 953, 954, 955, 967, 968, 969, 970, 971, 972, 973, 974, 975] (by decide +kernel) (by decide +kernel)
set_option maxRecDepth 20000 in
theorem gL_law_X10_wrong : GoodIn wsL_law (wsV RL 61 RX10 yX10_wrong wsX10_wrong) := goodIn_app (goodIn_of _ (by decide +kernel)) ggL_law_X10_wrong
set_option maxRecDepth 20000 in
theorem ggL_law_X11_wrong : GoodIn wsL_law wsX11_wrong := goodIn_r _ [485, 225, 228, 236, 237, 5, 238, 426, 427, 428, 429, 430, 431, 432, 433, 101, 94, 434, 435, 436, 437, 229, 102, 92, 103, 438, 439, 440, 441, 329, 330, 331, 442, 443, 444, 445, 308, 309, 310, 311, 91, 464, 465, 466, 467, 95, 486, 487, 488, 489, 93, 910, 911, 912, 913, 914, 915, 916, 917, 918, 919, 920, 921, 922, 923, 924, 925, 926, 927, 928, 929, 930, 931, 932, 933, 934, 935, 936, 937, 938, 939, 940] (by decide +kernel) (by decide +kernel)
set_option maxRecDepth 20000 in
theorem gL_law_X11_wrong : GoodIn wsL_law (wsV RL 64 RX11 yX11_wrong wsX11_wrong) := goodIn_app (goodIn_of _ (by decide +kernel)) ggL_law_X11_wrong
set_option maxRecDepth 20000 in
theorem ggL_law_X10_cover : GoodIn wsL_law wsX10_cover := goodIn_r _ [493, 19, 336, 318, 319, 2, 320, 337, 338, 339, 340, 120, 494, 495, 496, 18, 497, 498, 499, 500, 501, 54, 502, 503, 504, 505, 52, 506, 507, 508, 509, 510, 511, 512, 902, 903, 904, 905, 906, 907, 908, 909, 944, 945, 946, 947, 948, 949, 950] (by decide +kernel) (by decide +kernel)
set_option maxRecDepth 20000 in
theorem gL_law_X10_cover : GoodIn wsL_law (wsV RL 65 RX10 yX10_cover wsX10_cover) := goodIn_app (goodIn_of _ (by decide +kernel)) ggL_law_X10_cover
set_option maxRecDepth 20000 in
theorem ggL_law_X11_cover : GoodIn wsL_law wsX11_cover := goodIn_r _ [516, 228, 325, 326, 5, 327, 328, 236, 237, 238, 517, 518, 519, 520, 521, 522, 523, 524, 92, 95, 329, 330, 331, 525, 526, 527, 910, 911, 912, 913, 914, 915, 916, 917, 918, 919, 920, 921, 922, 923, 924, 925, 926, 927, 928, 929, 930, 931, 932, 933, 934, 935, 936, 937, 938, 939, 940] (by decide +kernel) (by decide +kernel)
set_option maxRecDepth 20000 in
theorem gL_law_X11_cover : GoodIn wsL_law (wsV RL 68 RX11 yX11_cover wsX11_cover) := goodIn_app (goodIn_of _ (by decide +kernel)) ggL_law_X11_cover
set_option maxRecDepth 20000 in
theorem ggL_law_X10_least : GoodIn wsL_law wsX10_least := goodIn_r _ [531, 27, 318, 319, 2, 320, 337, 338, 339, 340, 19, 120, 532, 533, 534, 26, 535, 71, 70, 536, 537, 499, 500, 18, 501, 54, 538, 539, 540, 541, 542, 543, 544, 503, 504, 505, 52, 545, 546, 547, 548, 549, 550, 551, 552, 553, 414, 415, 554, 555, 556, 557, 558, 559, 560, 561, 562, 563, 564, 565, 902, 903, 904, 905, 906, 907, 908, 909, 944, 945, 946, 947, 948, 949, 950, 956, 957] (by decide +kernel) (by decide +kernel)
set_option maxRecDepth 20000 in
theorem gL_law_X10_least : GoodIn wsL_law (wsV RL 69 RX10 yX10_least wsX10_least) := goodIn_app (goodIn_of _ (by decide +kernel)) ggL_law_X10_least
set_option maxRecDepth 20000 in
theorem ggL_law_X11_least : GoodIn wsL_law wsX11_least := goodIn_r _ [569, 228, 104, 105, 325, 326, 5, 327, 328, 236, 237, 238, 570, 571, 572, 573, 517, 518, 519, 520, 521, 522, 523, 524, 92, 95, 329, 330, 331, 574, 575, 576, 577, 308, 309, 310, 311, 91, 910, 911, 912, 913, 914, 915, 916, 917, 918, 919, 920, 921, 922, 923, 924, 925, 926, 927, 928, 929, 930, 931, 932, 933, 934, 935, 936, 937, 938, 939, 940] (by decide +kernel) (by decide +kernel)
set_option maxRecDepth 20000 in
theorem gL_law_X11_least : GoodIn wsL_law (wsV RL 72 RX11 yX11_least wsX11_least) := goodIn_app (goodIn_of _ (by decide +kernel)) ggL_law_X11_least
set_option maxRecDepth 20000 in
theorem ggL_law_X10_judge : GoodIn wsL_law wsX10_judge := goodIn_r _ [581, 19, 119, 38, 37, 582, 583, 584, 585, 23, 121, 122, 123, 2, 124, 13, 125, 126, 127, 128, 129, 130, 131, 337, 338, 339, 340, 120, 132, 133, 134, 15, 135, 136, 137, 138, 139, 43, 140, 141, 142, 143, 144, 145, 146, 147, 44, 148, 149, 150, 151, 586, 587, 588, 18, 589, 590, 591, 592, 593, 498, 499, 500, 501, 54, 472, 473, 474, 22, 475, 64, 393, 62, 394, 395, 396, 397, 398, 60, 61, 399, 400, 63, 401, 402, 403, 404, 405, 406, 407, 408, 409, 410, 411, 412, 413, 414, 415, 416, 417, 418, 419, 420, 196, 197, 198, 199, 168, 200, 201, 202, 203, 174, 204, 205, 206, 171, 207, 208, 209, 210, 421, 212, 476, 477, 478, 479, 480, 902, 903, 904, 905, 906, 907, 908, 909, 941, 942, 943, 944, 945, 946, 947, 948, 949, 950, 951, 952, 953, 954, 955, 967, 968, 969, 970, 971, 972, 973, 974, 975] (by decide +kernel) (by decide +kernel)
set_option maxRecDepth 20000 in
theorem gL_law_X10_judge : GoodIn wsL_law (wsV RL 73 RX10 yX10_judge wsX10_judge) := goodIn_app (goodIn_of _ (by decide +kernel)) ggL_law_X10_judge
set_option maxRecDepth 20000 in
theorem ggL_law_X11_judge : GoodIn wsL_law wsX11_judge := goodIn_r _ [597, 225, 228, 113, 101, 232, 233, 5, 234, 235, 236, 237, 238, 239, 240, 241, 242, 243, 244, 245, 246, 247, 111, 112, 248, 249, 250, 251, 252, 253, 254, 517, 518, 519, 520, 434, 435, 436, 437, 229, 102, 92, 103, 438, 439, 440, 441, 329, 330, 331, 442, 443, 444, 445, 308, 309, 310, 311, 91, 464, 465, 466, 467, 95, 486, 487, 488, 489, 93, 910, 911, 912, 913, 914, 915, 916, 917, 918, 919, 920, 921, 922, 923, 924, 925, 926, 927, 928, 929, 930, 931, 932, 933, 934, 935, 936, 937, 938, 939, 940] (by decide +kernel) (by decide +kernel)
set_option maxRecDepth 20000 in
theorem gL_law_X11_judge : GoodIn wsL_law (wsV RL 76 RX11 yX11_judge wsX11_judge) := goodIn_app (goodIn_of _ (by decide +kernel)) ggL_law_X11_judge
set_option maxRecDepth 20000 in
theorem ggL_law_X10_trades : GoodIn wsL_law wsX10_trades := goodIn_r _ [601, 19, 120, 337, 338, 339, 2, 340, 602, 603, 604, 605, 37, 316, 23, 606, 607, 608, 609, 414, 415, 472, 473, 474, 22, 475, 64, 393, 62, 394, 395, 396, 397, 398, 60, 61, 399, 400, 63, 401, 402, 403, 404, 405, 406, 407, 408, 409, 410, 411, 412, 413, 416, 417, 418, 419, 420, 196, 197, 198, 199, 168, 200, 201, 202, 203, 174, 204, 205, 206, 171, 207, 208, 209, 210, 421, 212, 476, 477, 478, 479, 480, 902, 903, 904, 905, 906, 907, 908, 909, 944, 945, 946, 947, 948, 949, 950, 951, 952, 953, 954, 955, 967, 968, 969, 970, 971, 972, 973, 974, 975] (by decide +kernel) (by decide +kernel)
set_option maxRecDepth 20000 in
theorem gL_law_X10_trades : GoodIn wsL_law (wsV RL 77 RX10 yX10_trades wsX10_trades) := goodIn_app (goodIn_of _ (by decide +kernel)) ggL_law_X10_trades
set_option maxRecDepth 20000 in
theorem ggL_law_X11_trades : GoodIn wsL_law wsX11_trades := goodIn_r _ [613, 228, 614, 615, 616, 5, 617, 94, 101, 329, 330, 331, 434, 435, 436, 437, 229, 102, 92, 103, 438, 439, 440, 441, 442, 443, 444, 445, 308, 309, 310, 311, 91, 464, 465, 466, 467, 95, 486, 487, 488, 489, 93, 910, 911, 912, 913, 914, 915, 916, 917, 918, 919, 920, 921, 922, 923, 924, 925, 926, 927, 928, 929, 930, 931, 932, 933, 934, 935, 936, 937, 938, 939, 940] (by decide +kernel) (by decide +kernel)
set_option maxRecDepth 20000 in
theorem gL_law_X11_trades : GoodIn wsL_law (wsV RL 80 RX11 yX11_trades wsX11_trades) := goodIn_app (goodIn_of _ (by decide +kernel)) ggL_law_X11_trades
set_option maxRecDepth 20000 in
theorem ggL_law_X10_knows : GoodIn wsL_law wsX10_knows := goodIn_r _ [621, 19, 31, 316, 317, 282, 283, 18, 284, 54, 318, 319, 2, 320, 622, 623, 624, 30, 625, 80, 626, 627, 628, 629, 81, 75, 76, 414, 415, 630, 631, 632, 633, 902, 903, 904, 905, 906, 907, 908, 909, 944, 945, 946, 947, 948, 949, 950, 958, 959, 960, 961, 962, 963, 964, 965] (by decide +kernel) (by decide +kernel)
set_option maxRecDepth 20000 in
theorem gL_law_X10_knows : GoodIn wsL_law (wsV RL 81 RX10 yX10_knows wsX10_knows) := goodIn_app (goodIn_of _ (by decide +kernel)) ggL_law_X10_knows
set_option maxRecDepth 20000 in
theorem ggL_law_X11_knows : GoodIn wsL_law wsX11_knows := goodIn_r _ [637, 106, 304, 305, 306, 5, 307, 228, 236, 237, 238, 325, 326, 327, 328, 430, 431, 432, 433, 101, 94, 638, 639, 640, 641, 230, 96, 97, 642, 643, 644, 645, 329, 330, 331, 646, 647, 648, 649, 650, 651, 652, 653, 910, 911, 912, 913, 914, 915, 916, 917, 918, 919, 920, 921, 922, 923, 924, 925, 926, 927, 928, 929, 930, 931, 932, 933, 934, 935, 936, 937, 938, 939, 940] (by decide +kernel) (by decide +kernel)
set_option maxRecDepth 20000 in
theorem gL_law_X11_knows : GoodIn wsL_law (wsV RL 85 RX11 yX11_knows wsX11_knows) := goodIn_app (goodIn_of _ (by decide +kernel)) ggL_law_X11_knows
set_option maxRecDepth 20000 in
theorem ggL_law_X10_kept : GoodIn wsL_law wsX10_kept := goodIn_r _ [657, 19, 31, 316, 658, 317, 282, 283, 18, 284, 54, 318, 319, 2, 320, 622, 623, 624, 30, 625, 80, 626, 627, 628, 629, 81, 75, 76, 414, 415, 659, 591, 592, 593, 498, 499, 500, 501, 902, 903, 904, 905, 906, 907, 908, 909, 944, 945, 946, 947, 948, 949, 950, 958, 959, 960, 961, 962, 963, 964, 965] (by decide +kernel) (by decide +kernel)
set_option maxRecDepth 20000 in
theorem gL_law_X10_kept : GoodIn wsL_law (wsV RL 86 RX10 yX10_kept wsX10_kept) := goodIn_app (goodIn_of _ (by decide +kernel)) ggL_law_X10_kept
set_option maxRecDepth 20000 in
theorem ggL_law_X11_kept : GoodIn wsL_law wsX11_kept := goodIn_r _ [663, 304, 305, 306, 5, 307, 228, 236, 237, 238, 325, 326, 327, 328, 430, 431, 432, 433, 101, 94, 638, 639, 640, 641, 106, 230, 96, 97, 642, 643, 644, 645, 329, 330, 331, 646, 647, 648, 649, 650, 651, 652, 653, 517, 518, 519, 520, 910, 911, 912, 913, 914, 915, 916, 917, 918, 919, 920, 921, 922, 923, 924, 925, 926, 927, 928, 929, 930, 931, 932, 933, 934, 935, 936, 937, 938, 939, 940] (by decide +kernel) (by decide +kernel)
set_option maxRecDepth 20000 in
theorem gL_law_X11_kept : GoodIn wsL_law (wsV RL 89 RX11 yX11_kept wsX11_kept) := goodIn_app (goodIn_of _ (by decide +kernel)) ggL_law_X11_kept
set_option maxRecDepth 20000 in
theorem ggL_law_X10_reading : GoodIn wsL_law wsX10_reading := goodIn_r _ [667, 19, 31, 317, 282, 283, 18, 284, 54, 318, 319, 2, 320, 668, 669, 670, 30, 671, 82, 77, 78, 79, 902, 903, 904, 905, 906, 907, 908, 909, 944, 945, 946, 947, 948, 949, 950, 958, 959, 960, 961, 962, 963, 964, 965] (by decide +kernel) (by decide +kernel)
set_option maxRecDepth 20000 in
theorem gL_law_X10_reading : GoodIn wsL_law (wsV RL 90 RX10 yX10_reading wsX10_reading) := goodIn_app (goodIn_of _ (by decide +kernel)) ggL_law_X10_reading
set_option maxRecDepth 20000 in
theorem ggL_law_X11_reading : GoodIn wsL_law wsX11_reading := goodIn_r _ [675, 231, 107, 108, 110, 304, 305, 306, 5, 307, 228, 236, 237, 238, 325, 326, 327, 328, 910, 911, 912, 913, 914, 915, 916, 917, 918, 919, 920, 921, 922, 923, 924, 925, 926, 927, 928, 929, 930, 931, 932, 933, 934, 935, 936, 937, 938, 939, 940] (by decide +kernel) (by decide +kernel)
set_option maxRecDepth 20000 in
theorem gL_law_X11_reading : GoodIn wsL_law (wsV RL 93 RX11 yX11_reading wsX11_reading) := goodIn_app (goodIn_of _ (by decide +kernel)) ggL_law_X11_reading
set_option maxRecDepth 20000 in
theorem ggL_law_X10_back : GoodIn wsL_law wsX10_back := goodIn_r _ [679, 31, 680, 902, 903, 904, 905, 906, 907, 908, 909, 958, 959, 960, 961, 962, 963, 964, 965] (by decide +kernel) (by decide +kernel)
set_option maxRecDepth 20000 in
theorem gL_law_X10_back : GoodIn wsL_law (wsV RL 94 RX10 yX10_back wsX10_back) := goodIn_app (goodIn_of _ (by decide +kernel)) ggL_law_X10_back
set_option maxRecDepth 20000 in
theorem ggL_law_X11_back : GoodIn wsL_law wsX11_back := goodIn_r _ [684, 231, 236, 237, 5, 238, 910, 911, 912, 913, 914, 915, 916, 917, 918, 919, 920, 921, 922, 923, 924, 925, 926, 927, 928, 929, 930, 931, 932, 933, 934, 935, 936, 937, 938, 939, 940] (by decide +kernel) (by decide +kernel)
set_option maxRecDepth 20000 in
theorem gL_law_X11_back : GoodIn wsL_law (wsV RL 97 RX11 yX11_back wsX11_back) := goodIn_app (goodIn_of _ (by decide +kernel)) ggL_law_X11_back
set_option maxRecDepth 20000 in
theorem ggL_law_X10_began : GoodIn wsL_law wsX10_began := goodIn_r _ [688, 19, 120, 31, 316, 318, 319, 2, 320, 337, 338, 339, 340, 622, 623, 624, 30, 625, 80, 626, 627, 628, 629, 81, 75, 76, 414, 415, 689, 690, 691, 692, 82, 78, 77, 79, 902, 903, 904, 905, 906, 907, 908, 909, 944, 945, 946, 947, 948, 949, 950, 958, 959, 960, 961, 962, 963, 964, 965] (by decide +kernel) (by decide +kernel)
set_option maxRecDepth 20000 in
theorem gL_law_X10_began : GoodIn wsL_law (wsV RL 98 RX10 yX10_began wsX10_began) := goodIn_app (goodIn_of _ (by decide +kernel)) ggL_law_X10_began
set_option maxRecDepth 20000 in
theorem ggL_law_X11_began : GoodIn wsL_law wsX11_began := goodIn_r _ [696, 228, 325, 326, 5, 327, 328, 236, 237, 238, 430, 431, 432, 433, 101, 94, 638, 639, 640, 641, 106, 230, 96, 97, 642, 643, 644, 645, 329, 330, 331, 646, 647, 648, 649, 650, 651, 652, 653, 697, 698, 699, 700, 231, 107, 108, 110, 910, 911, 912, 913, 914, 915, 916, 917, 918, 919, 920, 921, 922, 923, 924, 925, 926, 927, 928, 929, 930, 931, 932, 933, 934, 935, 936, 937, 938, 939, 940] (by decide +kernel) (by decide +kernel)
set_option maxRecDepth 20000 in
theorem gL_law_X11_began : GoodIn wsL_law (wsV RL 101 RX11 yX11_began wsX11_began) := goodIn_app (goodIn_of _ (by decide +kernel)) ggL_law_X11_began
set_option maxRecDepth 20000 in
theorem ggL_law_X10_woken : GoodIn wsL_law wsX10_woken := goodIn_r _ [704, 19, 316, 37, 582, 583, 584, 585, 120, 31, 317, 282, 283, 18, 284, 54, 318, 319, 2, 320, 622, 623, 624, 30, 625, 80, 626, 627, 628, 629, 81, 75, 76, 414, 415, 689, 690, 691, 692, 82, 78, 77, 79, 902, 903, 904, 905, 906, 907, 908, 909, 944, 945, 946, 947, 948, 949, 950, 958, 959, 960, 961, 962, 963, 964, 965] (by decide +kernel) (by decide +kernel)
set_option maxRecDepth 20000 in
theorem gL_law_X10_woken : GoodIn wsL_law (wsV RL 102 RX10 yX10_woken wsX10_woken) := goodIn_app (goodIn_of _ (by decide +kernel)) ggL_law_X10_woken
set_option maxRecDepth 20000 in
theorem ggL_law_X11_woken : GoodIn wsL_law wsX11_woken := goodIn_r _ [708, 228, 101, 94, 304, 305, 306, 5, 307, 236, 237, 238, 325, 326, 327, 328, 430, 431, 432, 433, 638, 639, 640, 641, 106, 230, 96, 97, 642, 643, 644, 645, 329, 330, 331, 646, 647, 648, 649, 650, 651, 652, 653, 697, 698, 699, 700, 231, 107, 108, 110, 910, 911, 912, 913, 914, 915, 916, 917, 918, 919, 920, 921, 922, 923, 924, 925, 926, 927, 928, 929, 930, 931, 932, 933, 934, 935, 936, 937, 938, 939, 940] (by decide +kernel) (by decide +kernel)
set_option maxRecDepth 20000 in
theorem gL_law_X11_woken : GoodIn wsL_law (wsV RL 105 RX11 yX11_woken wsX11_woken) := goodIn_app (goodIn_of _ (by decide +kernel)) ggL_law_X11_woken
set_option maxRecDepth 20000 in
theorem ggL_law_X10_odds : GoodIn wsL_law wsX10_odds := goodIn_r _ [712, 713, 19, 318, 319, 2, 320, 337, 338, 339, 340, 120, 714, 715, 716, 717, 37, 316, 23, 718, 499, 500, 18, 501, 54, 472, 473, 474, 22, 475, 64, 393, 62, 394, 395, 396, 397, 398, 60, 61, 399, 400, 63, 401, 402, 403, 404, 405, 406, 407, 408, 409, 410, 411, 412, 413, 414, 415, 416, 417, 418, 419, 420, 196, 197, 198, 199, 168, 200, 201, 202, 203, 174, 204, 205, 206, 171, 207, 208, 209, 210, 421, 212, 476, 477, 478, 479, 480, 902, 903, 904, 905, 906, 907, 908, 909, 944, 945, 946, 947, 948, 949, 950, 951, 952, 953, 954, 955, 967, 968, 969, 970, 971, 972, 973, 974, 975] (by decide +kernel) (by decide +kernel)
set_option maxRecDepth 20000 in
theorem gL_law_X10_odds : GoodIn wsL_law (wsV RL 106 RX10 yX10_odds wsX10_odds) := goodIn_app (goodIn_of _ (by decide +kernel)) ggL_law_X10_odds
set_option maxRecDepth 20000 in
theorem ggL_law_X11_odds : GoodIn wsL_law wsX11_odds := goodIn_r _ [722, 228, 101, 94, 325, 326, 5, 327, 328, 236, 237, 238, 723, 724, 725, 726, 517, 518, 519, 520, 434, 435, 436, 437, 229, 102, 92, 103, 438, 439, 440, 441, 329, 330, 331, 442, 443, 444, 445, 308, 309, 310, 311, 91, 464, 465, 466, 467, 95, 727, 728, 729, 910, 911, 912, 913, 914, 915, 916, 917, 918, 919, 920, 921, 922, 923, 924, 925, 926, 927, 928, 929, 930, 931, 932, 933, 934, 935, 936, 937, 938, 939, 940] (by decide +kernel) (by decide +kernel)
set_option maxRecDepth 20000 in
theorem gL_law_X11_odds : GoodIn wsL_law (wsV RL 110 RX11 yX11_odds wsX11_odds) := goodIn_app (goodIn_of _ (by decide +kernel)) ggL_law_X11_odds
set_option maxRecDepth 20000 in
theorem ggL_law_X10_sheet : GoodIn wsL_law wsX10_sheet := goodIn_r _ [733, 38, 121, 122, 123, 2, 124, 13, 125, 126, 127, 128, 129, 130, 131, 148, 149, 150, 151, 734, 735, 736, 15, 737, 42, 43, 44, 738, 214, 215, 216, 902, 903, 904, 905, 906, 907, 908, 909, 941, 942, 943] (by decide +kernel) (by decide +kernel)
set_option maxRecDepth 20000 in
theorem gL_law_X10_sheet : GoodIn wsL_law (wsV RL 111 RX10 yX10_sheet wsX10_sheet) := goodIn_app (goodIn_of _ (by decide +kernel)) ggL_law_X10_sheet
set_option maxRecDepth 20000 in
theorem ggL_law_X11_sheet : GoodIn wsL_law wsX11_sheet := goodIn_r _ [742, 225, 111, 112, 113, 232, 233, 5, 234, 235, 236, 237, 238, 239, 240, 241, 242, 243, 248, 249, 250, 251, 910, 911, 912, 913, 914, 915, 916, 917, 918, 919, 920, 921, 922, 923, 924, 925, 926, 927, 928, 929, 930, 931, 932, 933, 934, 935, 936, 937, 938, 939, 940] (by decide +kernel) (by decide +kernel)
set_option maxRecDepth 20000 in
theorem gL_law_X11_sheet : GoodIn wsL_law (wsV RL 114 RX11 yX11_sheet wsX11_sheet) := goodIn_app (goodIn_of _ (by decide +kernel)) ggL_law_X11_sheet
set_option maxRecDepth 20000 in
theorem ggL_law_X10_lose : GoodIn wsL_law wsX10_lose := goodIn_r _ [746, 121, 122, 123, 2, 124, 13, 747, 141, 142, 15, 143, 43, 748, 749, 750, 751, 44, 902, 903, 904, 905, 906, 907, 908, 909, 941, 942, 943] (by decide +kernel) (by decide +kernel)
set_option maxRecDepth 20000 in
theorem gL_law_X10_lose : GoodIn wsL_law (wsV RL 115 RX10 yX10_lose wsX10_lose) := goodIn_app (goodIn_of _ (by decide +kernel)) ggL_law_X10_lose
set_option maxRecDepth 20000 in
theorem ggL_law_X11_lose : GoodIn wsL_law wsX11_lose := goodIn_r _ [755, 111, 232, 233, 5, 234, 235, 236, 237, 238, 910, 911, 912, 913, 914, 915, 916, 917, 918, 919, 920, 921, 922, 923, 924, 925, 926, 927, 928, 929, 930, 931, 932, 933, 934, 935, 936, 937, 938, 939, 940] (by decide +kernel) (by decide +kernel)
set_option maxRecDepth 20000 in
theorem gL_law_X11_lose : GoodIn wsL_law (wsV RL 118 RX11 yX11_lose wsX11_lose) := goodIn_app (goodIn_of _ (by decide +kernel)) ggL_law_X11_lose
set_option maxRecDepth 20000 in
theorem ggL_law_X10_put : GoodIn wsL_law wsX10_put := goodIn_r _ [759, 760, 38, 119, 121, 122, 123, 2, 124, 13, 125, 126, 127, 128, 747, 141, 142, 15, 143, 43, 148, 149, 150, 151, 761, 762, 763, 764, 941, 942, 943, 902, 903, 904, 905, 906, 907, 908, 909] (by decide +kernel) (by decide +kernel)
set_option maxRecDepth 20000 in
theorem gL_law_X10_put : GoodIn wsL_law (wsV RL 119 RX10 yX10_put wsX10_put) := goodIn_app (goodIn_of _ (by decide +kernel)) ggL_law_X10_put
set_option maxRecDepth 20000 in
theorem ggL_law_X11_put : GoodIn wsL_law wsX11_put := goodIn_r _ [768, 113, 112, 232, 233, 5, 234, 235, 236, 237, 238, 239, 240, 241, 242, 243, 769, 770, 771, 772, 111, 248, 249, 250, 251, 910, 911, 912, 913, 914, 915, 916, 917, 918, 919, 920, 921, 922, 923, 924, 925, 926, 927, 928, 929, 930, 931, 932, 933, 934, 935, 936, 937, 938, 939, 940] (by decide +kernel) (by decide +kernel)
set_option maxRecDepth 20000 in
theorem gL_law_X11_put : GoodIn wsL_law (wsV RL 122 RX11 yX11_put wsX11_put) := goodIn_app (goodIn_of _ (by decide +kernel)) ggL_law_X11_put
set_option maxRecDepth 20000 in
theorem ggL_law_X10_cell : GoodIn wsL_law wsX10_cell := goodIn_r _ [776, 38, 713, 119, 121, 122, 123, 2, 124, 13, 129, 130, 131, 777, 778, 779, 15, 780, 44, 136, 137, 138, 139, 43, 140, 141, 142, 143, 902, 903, 904, 905, 906, 907, 908, 909, 941, 942, 943] (by decide +kernel) (by decide +kernel)
set_option maxRecDepth 20000 in
theorem gL_law_X10_cell : GoodIn wsL_law (wsV RL 123 RX10 yX10_cell wsX10_cell) := goodIn_app (goodIn_of _ (by decide +kernel)) ggL_law_X10_cell
set_option maxRecDepth 20000 in
theorem ggL_law_X11_cell : GoodIn wsL_law wsX11_cell := goodIn_r _ [784, 243, 225, 111, 112, 113, 232, 233, 5, 234, 235, 236, 237, 238, 723, 724, 725, 726, 785, 786, 787, 788, 769, 770, 771, 772, 910, 911, 912, 913, 914, 915, 916, 917, 918, 919, 920, 921, 922, 923, 924, 925, 926, 927, 928, 929, 930, 931, 932, 933, 934, 935, 936, 937, 938, 939, 940] (by decide +kernel) (by decide +kernel)
set_option maxRecDepth 20000 in
theorem gL_law_X11_cell : GoodIn wsL_law (wsV RL 127 RX11 yX11_cell wsX11_cell) := goodIn_app (goodIn_of _ (by decide +kernel)) ggL_law_X11_cell
set_option maxRecDepth 20000 in
theorem ggL_law_X10_copy : GoodIn wsL_law wsX10_copy := goodIn_r _ [792, 793, 38, 119, 582, 583, 584, 585, 121, 122, 123, 2, 124, 13, 125, 126, 127, 128, 747, 141, 142, 15, 143, 43, 148, 149, 150, 151, 794, 145, 146, 147, 44, 941, 942, 943, 902, 903, 904, 905, 906, 907, 908, 909] (by decide +kernel) (by decide +kernel)
set_option maxRecDepth 20000 in
theorem gL_law_X10_copy : GoodIn wsL_law (wsV RL 128 RX10 yX10_copy wsX10_copy) := goodIn_app (goodIn_of _ (by decide +kernel)) ggL_law_X10_copy
set_option maxRecDepth 20000 in
theorem ggL_law_X11_copy : GoodIn wsL_law wsX11_copy := goodIn_r _ [798, 111, 112, 114, 113, 232, 233, 5, 234, 235, 236, 237, 238, 239, 240, 241, 242, 243, 248, 249, 250, 251, 252, 253, 254, 910, 911, 912, 913, 914, 915, 916, 917, 918, 919, 920, 921, 922, 923, 924, 925, 926, 927, 928, 929, 930, 931, 932, 933, 934, 935, 936, 937, 938, 939, 940] (by decide +kernel) (by decide +kernel)
set_option maxRecDepth 20000 in
theorem gL_law_X11_copy : GoodIn wsL_law (wsV RL 132 RX11 yX11_copy wsX11_copy) := goodIn_app (goodIn_of _ (by decide +kernel)) ggL_law_X11_copy
set_option maxRecDepth 20000 in
theorem ggL_law_X10_tell : GoodIn wsL_law wsX10_tell := goodIn_r _ [802, 19, 35, 277, 278, 279, 18, 280, 49, 281, 282, 283, 284, 54, 803, 804, 805, 806, 807, 168, 808, 809, 810, 811, 34, 812, 86, 813, 202, 814, 174, 815, 816, 817, 818, 819, 820, 184, 821, 822, 823, 824, 825, 826, 171, 827, 828, 829, 830, 210, 831, 832, 833, 834, 835, 902, 903, 904, 905, 906, 907, 908, 909, 944, 945, 946, 947, 948, 949, 950, 966, 967, 968, 969, 970, 971, 972, 973, 974, 975] (by decide +kernel) (by decide +kernel)
set_option maxRecDepth 20000 in
theorem gL_law_X10_tell : GoodIn wsL_law (wsV RL 133 RX10 yX10_tell wsX10_tell) := goodIn_app (goodIn_of _ (by decide +kernel)) ggL_law_X10_tell
set_option maxRecDepth 20000 in
theorem ggL_law_X11_tell : GoodIn wsL_law wsX11_tell := goodIn_r _ [839, 91, 93, 304, 305, 306, 5, 307, 228, 236, 237, 238, 840, 841, 842, 843, 844, 910, 911, 912, 913, 914, 915, 916, 917, 918, 919, 920, 921, 922, 923, 924, 925, 926, 927, 928, 929, 930, 931, 932, 933, 934, 935, 936, 937, 938, 939, 940] (by decide +kernel) (by decide +kernel)
set_option maxRecDepth 20000 in
theorem gL_law_X11_tell : GoodIn wsL_law (wsV RL 136 RX11 yX11_tell wsX11_tell) := goodIn_app (goodIn_of _ (by decide +kernel)) ggL_law_X11_tell
set_option maxRecDepth 20000 in
theorem ggL_law_X10_greet : GoodIn wsL_law wsX10_greet := goodIn_r _ [848, 19, 35, 277, 278, 279, 18, 280, 49, 281, 282, 283, 284, 54, 849, 850, 851, 852, 174, 853, 182, 821, 810, 811, 34, 812, 86, 854, 855, 856, 171, 857, 828, 858, 859, 902, 903, 904, 905, 906, 907, 908, 909, 944, 945, 946, 947, 948, 949, 950, 967, 968, 969, 970, 971, 972, 973, 974, 975, 966] (by decide +kernel) (by decide +kernel)
set_option maxRecDepth 20000 in
theorem gL_law_X10_greet : GoodIn wsL_law (wsV RL 137 RX10 yX10_greet wsX10_greet) := goodIn_app (goodIn_of _ (by decide +kernel)) ggL_law_X10_greet
set_option maxRecDepth 20000 in
theorem ggL_law_X11_greet : GoodIn wsL_law wsX11_greet := goodIn_r _ [863, 91, 304, 305, 306, 5, 307, 228, 236, 237, 238, 840, 841, 842, 843, 844, 910, 911, 912, 913, 914, 915, 916, 917, 918, 919, 920, 921, 922, 923, 924, 925, 926, 927, 928, 929, 930, 931, 932, 933, 934, 935, 936, 937, 938, 939, 940] (by decide +kernel) (by decide +kernel)
set_option maxRecDepth 20000 in
theorem gL_law_X11_greet : GoodIn wsL_law (wsV RL 140 RX11 yX11_greet wsX11_greet) := goodIn_app (goodIn_of _ (by decide +kernel)) ggL_law_X11_greet
set_option maxRecDepth 20000 in
theorem ggL_law_X10_as : GoodIn wsL_law wsX10_as := goodIn_r _ [867, 19, 38, 277, 278, 279, 18, 280, 49, 281, 282, 283, 284, 54, 125, 126, 127, 2, 128, 868, 869, 870, 871, 872, 148, 149, 150, 151, 902, 903, 904, 905, 906, 907, 908, 909, 944, 945, 946, 947, 948, 949, 950] (by decide +kernel) (by decide +kernel)
set_option maxRecDepth 20000 in
theorem gL_law_X10_as : GoodIn wsL_law (wsV RL 141 RX10 yX10_as wsX10_as) := goodIn_app (goodIn_of _ (by decide +kernel)) ggL_law_X10_as
set_option maxRecDepth 20000 in
theorem ggL_law_X11_as : GoodIn wsL_law wsX11_as := goodIn_r _ [876, 225, 91, 304, 305, 306, 5, 307, 228, 236, 237, 238, 239, 240, 241, 242, 243, 248, 249, 250, 251, 910, 911, 912, 913, 914, 915, 916, 917, 918, 919, 920, 921, 922, 923, 924, 925, 926, 927, 928, 929, 930, 931, 932, 933, 934, 935, 936, 937, 938, 939, 940] (by decide +kernel) (by decide +kernel)
set_option maxRecDepth 20000 in
theorem gL_law_X11_as : GoodIn wsL_law (wsV RL 144 RX11 yX11_as wsX11_as) := goodIn_app (goodIn_of _ (by decide +kernel)) ggL_law_X11_as
set_option maxRecDepth 20000 in
theorem ggL_law_X10_trace : GoodIn wsL_law wsX10_trace := goodIn_r _ [880, 35, 881, 902, 903, 904, 905, 906, 907, 908, 909, 966] (by decide +kernel) (by decide +kernel)
set_option maxRecDepth 20000 in
theorem gL_law_X10_trace : GoodIn wsL_law (wsV RL 145 RX10 yX10_trace wsX10_trace) := goodIn_app (goodIn_of _ (by decide +kernel)) ggL_law_X10_trace
set_option maxRecDepth 20000 in
theorem ggL_law_X11_trace : GoodIn wsL_law wsX11_trace := goodIn_r _ [885, 844, 910, 911, 912, 913, 914, 915, 916, 917, 918, 919, 920, 921, 922, 923, 924, 925, 926, 927, 928, 929, 930, 931, 932, 933, 934, 935, 936, 937, 938, 939, 940] (by decide +kernel) (by decide +kernel)
set_option maxRecDepth 20000 in
theorem gL_law_X11_trace : GoodIn wsL_law (wsV RL 149 RX11 yX11_trace wsX11_trace) := goodIn_app (goodIn_of _ (by decide +kernel)) ggL_law_X11_trace
set_option maxRecDepth 20000 in
theorem ggL_law_X10_fault : GoodIn wsL_law wsX10_fault := goodIn_r _ [889, 38, 902, 903, 904, 905, 906, 907, 908, 909] (by decide +kernel) (by decide +kernel)
set_option maxRecDepth 20000 in
theorem gL_law_X10_fault : GoodIn wsL_law (wsV RL 150 RX10 yX10_fault wsX10_fault) := goodIn_app (goodIn_of _ (by decide +kernel)) ggL_law_X10_fault
set_option maxRecDepth 20000 in
theorem ggL_law_X11_fault : GoodIn wsL_law wsX11_fault := goodIn_r _ [893, 243, 910, 911, 912, 913, 914, 915, 916, 917, 918, 919, 920, 921, 922, 923, 924, 925, 926, 927, 928, 929, 930, 931, 932, 933, 934, 935, 936, 937, 938, 939, 940] (by decide +kernel) (by decide +kernel)
set_option maxRecDepth 20000 in
theorem gL_law_X11_fault : GoodIn wsL_law (wsV RL 153 RX11 yX11_fault wsX11_fault) := goodIn_app (goodIn_of _ (by decide +kernel)) ggL_law_X11_fault
set_option maxRecDepth 20000 in
theorem ggL_law_X10_many : GoodIn wsL_law wsX10_many := goodIn_r _ [897, 19, 120, 31, 371, 680, 350, 902, 903, 904, 905, 906, 907, 908, 909, 944, 945, 946, 947, 948, 949, 950, 958, 959, 960, 961, 962, 963, 964, 965] (by decide +kernel) (by decide +kernel)
set_option maxRecDepth 20000 in
theorem gL_law_X10_many : GoodIn wsL_law (wsV RL 154 RX10 yX10_many wsX10_many) := goodIn_app (goodIn_of _ (by decide +kernel)) ggL_law_X10_many
set_option maxRecDepth 20000 in
theorem ggL_law_X11_many : GoodIn wsL_law wsX11_many := goodIn_r _ [901, 228, 230, 231, 229, 910, 911, 912, 913, 914, 915, 916, 917, 918, 919, 920, 921, 922, 923, 924, 925, 926, 927, 928, 929, 930, 931, 932, 933, 934, 935, 936, 937, 938, 939, 940] (by decide +kernel) (by decide +kernel)
set_option maxRecDepth 20000 in
theorem gL_law_X11_many : GoodIn wsL_law (wsV RL 157 RX11 yX11_many wsX11_many) := goodIn_app (goodIn_of _ (by decide +kernel)) ggL_law_X11_many
theorem dL_law_0 : decode cL_law 0 = .ok (.new 7, 3) := by decide +kernel
theorem dL_law_3 : decode cL_law 3 = .ok (.dup, 1) := by decide +kernel
theorem dL_law_4 : decode cL_law 4 = .ok (.invokespecial 9, 3) := by decide +kernel
theorem dL_law_7 : decode cL_law 7 = .ok (.astore_n 1, 1) := by decide +kernel
theorem dL_law_8 : decode cL_law 8 = .ok (.new 10, 3) := by decide +kernel
theorem dL_law_11 : decode cL_law 11 = .ok (.dup, 1) := by decide +kernel
theorem dL_law_12 : decode cL_law 12 = .ok (.invokespecial 12, 3) := by decide +kernel
theorem dL_law_15 : decode cL_law 15 = .ok (.astore_n 2, 1) := by decide +kernel
theorem dL_law_16 : decode cL_law 16 = .ok (.iconst 0, 1) := by decide +kernel
theorem dL_law_17 : decode cL_law 17 = .ok (.istore_n 3, 1) := by decide +kernel
theorem dL_law_18 : decode cL_law 18 = .ok (.iload_n 3, 1) := by decide +kernel
theorem dL_law_19 : decode cL_law 19 = .ok (.aload_n 0, 1) := by decide +kernel
theorem dL_law_20 : decode cL_law 20 = .ok (.arraylength, 1) := by decide +kernel
theorem dL_law_21 : decode cL_law 21 = .ok (.bipush 6, 2) := by decide +kernel
theorem dL_law_23 : decode cL_law 23 = .ok (.isub, 1) := by decide +kernel
theorem dL_law_24 : decode cL_law 24 = .ok (.if_icmp .gt 1282, 3) := by decide +kernel
theorem dL_law_27 : decode cL_law 27 = .ok (.aload_n 0, 1) := by decide +kernel
theorem dL_law_28 : decode cL_law 28 = .ok (.iload_n 3, 1) := by decide +kernel
theorem dL_law_29 : decode cL_law 29 = .ok (.iaload, 1) := by decide +kernel
theorem dL_law_30 : decode cL_law 30 = .ok (.bipush 63, 2) := by decide +kernel
theorem dL_law_32 : decode cL_law 32 = .ok (.iand, 1) := by decide +kernel
theorem dL_law_33 : decode cL_law 33 = .ok (.tableswitch 1267 0 33 #[151, 204, 237, 296, 329, 352, 385, 408, 431, 464, 497, 520, 543, 566, 589, 642, 665, 708, 741, 800, 823, 846, 889, 923, 966, 989, 1032, 1076, 1139, 1162, 1185, 1218, 1231, 1244], 151) := by decide +kernel
theorem dL_law_184 : decode cL_law 184 = .ok (.aload_n 1, 1) := by decide +kernel
theorem dL_law_185 : decode cL_law 185 = .ok (.aload_n 0, 1) := by decide +kernel
theorem dL_law_186 : decode cL_law 186 = .ok (.iload_n 3, 1) := by decide +kernel
theorem dL_law_187 : decode cL_law 187 = .ok (.iconst 1, 1) := by decide +kernel
theorem dL_law_188 : decode cL_law 188 = .ok (.iadd, 1) := by decide +kernel
theorem dL_law_189 : decode cL_law 189 = .ok (.iaload, 1) := by decide +kernel
theorem dL_law_190 : decode cL_law 190 = .ok (.aload_n 0, 1) := by decide +kernel
theorem dL_law_191 : decode cL_law 191 = .ok (.iload_n 3, 1) := by decide +kernel
theorem dL_law_192 : decode cL_law 192 = .ok (.iconst 2, 1) := by decide +kernel
theorem dL_law_193 : decode cL_law 193 = .ok (.iadd, 1) := by decide +kernel
theorem dL_law_194 : decode cL_law 194 = .ok (.iaload, 1) := by decide +kernel
theorem dL_law_195 : decode cL_law 195 = .ok (.aload_n 0, 1) := by decide +kernel
theorem dL_law_196 : decode cL_law 196 = .ok (.iload_n 3, 1) := by decide +kernel
theorem dL_law_197 : decode cL_law 197 = .ok (.iconst 3, 1) := by decide +kernel
theorem dL_law_198 : decode cL_law 198 = .ok (.iadd, 1) := by decide +kernel
theorem dL_law_199 : decode cL_law 199 = .ok (.iaload, 1) := by decide +kernel
theorem dL_law_200 : decode cL_law 200 = .ok (.aload_n 0, 1) := by decide +kernel
theorem dL_law_201 : decode cL_law 201 = .ok (.iload_n 3, 1) := by decide +kernel
theorem dL_law_202 : decode cL_law 202 = .ok (.iconst 4, 1) := by decide +kernel
theorem dL_law_203 : decode cL_law 203 = .ok (.iadd, 1) := by decide +kernel
theorem dL_law_204 : decode cL_law 204 = .ok (.iaload, 1) := by decide +kernel
theorem dL_law_205 : decode cL_law 205 = .ok (.invokevirtual 13, 3) := by decide +kernel
theorem dL_law_208 : decode cL_law 208 = .ok (.aload_n 2, 1) := by decide +kernel
theorem dL_law_209 : decode cL_law 209 = .ok (.aload_n 0, 1) := by decide +kernel
theorem dL_law_210 : decode cL_law 210 = .ok (.iload_n 3, 1) := by decide +kernel
theorem dL_law_211 : decode cL_law 211 = .ok (.iconst 1, 1) := by decide +kernel
theorem dL_law_212 : decode cL_law 212 = .ok (.iadd, 1) := by decide +kernel
theorem dL_law_213 : decode cL_law 213 = .ok (.iaload, 1) := by decide +kernel
theorem dL_law_214 : decode cL_law 214 = .ok (.aload_n 0, 1) := by decide +kernel
theorem dL_law_215 : decode cL_law 215 = .ok (.iload_n 3, 1) := by decide +kernel
theorem dL_law_216 : decode cL_law 216 = .ok (.iconst 2, 1) := by decide +kernel
theorem dL_law_217 : decode cL_law 217 = .ok (.iadd, 1) := by decide +kernel
theorem dL_law_218 : decode cL_law 218 = .ok (.iaload, 1) := by decide +kernel
theorem dL_law_219 : decode cL_law 219 = .ok (.aload_n 0, 1) := by decide +kernel
theorem dL_law_220 : decode cL_law 220 = .ok (.iload_n 3, 1) := by decide +kernel
theorem dL_law_221 : decode cL_law 221 = .ok (.iconst 3, 1) := by decide +kernel
theorem dL_law_222 : decode cL_law 222 = .ok (.iadd, 1) := by decide +kernel
theorem dL_law_223 : decode cL_law 223 = .ok (.iaload, 1) := by decide +kernel
theorem dL_law_224 : decode cL_law 224 = .ok (.aload_n 0, 1) := by decide +kernel
theorem dL_law_225 : decode cL_law 225 = .ok (.iload_n 3, 1) := by decide +kernel
theorem dL_law_226 : decode cL_law 226 = .ok (.iconst 4, 1) := by decide +kernel
theorem dL_law_227 : decode cL_law 227 = .ok (.iadd, 1) := by decide +kernel
theorem dL_law_228 : decode cL_law 228 = .ok (.iaload, 1) := by decide +kernel
theorem dL_law_229 : decode cL_law 229 = .ok (.invokevirtual 17, 3) := by decide +kernel
theorem dL_law_232 : decode cL_law 232 = .ok (.if_icmp .eq 1068, 3) := by decide +kernel
theorem dL_law_235 : decode cL_law 235 = .ok (.iconst 0, 1) := by decide +kernel
theorem dL_law_236 : decode cL_law 236 = .ok (.ireturn, 1) := by decide +kernel
theorem dL_law_237 : decode cL_law 237 = .ok (.aload_n 1, 1) := by decide +kernel
theorem dL_law_238 : decode cL_law 238 = .ok (.aload_n 0, 1) := by decide +kernel
theorem dL_law_239 : decode cL_law 239 = .ok (.iload_n 3, 1) := by decide +kernel
theorem dL_law_240 : decode cL_law 240 = .ok (.iconst 1, 1) := by decide +kernel
theorem dL_law_241 : decode cL_law 241 = .ok (.iadd, 1) := by decide +kernel
theorem dL_law_242 : decode cL_law 242 = .ok (.iaload, 1) := by decide +kernel
theorem dL_law_243 : decode cL_law 243 = .ok (.aload_n 0, 1) := by decide +kernel
theorem dL_law_244 : decode cL_law 244 = .ok (.iload_n 3, 1) := by decide +kernel
theorem dL_law_245 : decode cL_law 245 = .ok (.iconst 2, 1) := by decide +kernel
theorem dL_law_246 : decode cL_law 246 = .ok (.iadd, 1) := by decide +kernel
theorem dL_law_247 : decode cL_law 247 = .ok (.iaload, 1) := by decide +kernel
theorem dL_law_248 : decode cL_law 248 = .ok (.invokevirtual 18, 3) := by decide +kernel
theorem dL_law_251 : decode cL_law 251 = .ok (.aload_n 2, 1) := by decide +kernel
theorem dL_law_252 : decode cL_law 252 = .ok (.aload_n 0, 1) := by decide +kernel
theorem dL_law_253 : decode cL_law 253 = .ok (.iload_n 3, 1) := by decide +kernel
theorem dL_law_254 : decode cL_law 254 = .ok (.iconst 1, 1) := by decide +kernel
theorem dL_law_255 : decode cL_law 255 = .ok (.iadd, 1) := by decide +kernel
theorem dL_law_256 : decode cL_law 256 = .ok (.iaload, 1) := by decide +kernel
theorem dL_law_257 : decode cL_law 257 = .ok (.aload_n 0, 1) := by decide +kernel
theorem dL_law_258 : decode cL_law 258 = .ok (.iload_n 3, 1) := by decide +kernel
theorem dL_law_259 : decode cL_law 259 = .ok (.iconst 2, 1) := by decide +kernel
theorem dL_law_260 : decode cL_law 260 = .ok (.iadd, 1) := by decide +kernel
theorem dL_law_261 : decode cL_law 261 = .ok (.iaload, 1) := by decide +kernel
theorem dL_law_262 : decode cL_law 262 = .ok (.invokevirtual 22, 3) := by decide +kernel
theorem dL_law_265 : decode cL_law 265 = .ok (.if_icmp .eq 1035, 3) := by decide +kernel
theorem dL_law_268 : decode cL_law 268 = .ok (.iconst 0, 1) := by decide +kernel
theorem dL_law_269 : decode cL_law 269 = .ok (.ireturn, 1) := by decide +kernel
theorem dL_law_270 : decode cL_law 270 = .ok (.aload_n 1, 1) := by decide +kernel
theorem dL_law_271 : decode cL_law 271 = .ok (.aload_n 0, 1) := by decide +kernel
theorem dL_law_272 : decode cL_law 272 = .ok (.iload_n 3, 1) := by decide +kernel
theorem dL_law_273 : decode cL_law 273 = .ok (.iconst 1, 1) := by decide +kernel
theorem dL_law_274 : decode cL_law 274 = .ok (.iadd, 1) := by decide +kernel
theorem dL_law_275 : decode cL_law 275 = .ok (.iaload, 1) := by decide +kernel
theorem dL_law_276 : decode cL_law 276 = .ok (.aload_n 0, 1) := by decide +kernel
theorem dL_law_277 : decode cL_law 277 = .ok (.iload_n 3, 1) := by decide +kernel
theorem dL_law_278 : decode cL_law 278 = .ok (.iconst 2, 1) := by decide +kernel
theorem dL_law_279 : decode cL_law 279 = .ok (.iadd, 1) := by decide +kernel
theorem dL_law_280 : decode cL_law 280 = .ok (.iaload, 1) := by decide +kernel
theorem dL_law_281 : decode cL_law 281 = .ok (.aload_n 0, 1) := by decide +kernel
theorem dL_law_282 : decode cL_law 282 = .ok (.iload_n 3, 1) := by decide +kernel
theorem dL_law_283 : decode cL_law 283 = .ok (.iconst 3, 1) := by decide +kernel
theorem dL_law_284 : decode cL_law 284 = .ok (.iadd, 1) := by decide +kernel
theorem dL_law_285 : decode cL_law 285 = .ok (.iaload, 1) := by decide +kernel
theorem dL_law_286 : decode cL_law 286 = .ok (.ifCond .eq 7, 3) := by decide +kernel
theorem dL_law_289 : decode cL_law 289 = .ok (.iconst 1, 1) := by decide +kernel
theorem dL_law_290 : decode cL_law 290 = .ok (.goto 4, 3) := by decide +kernel
theorem dL_law_293 : decode cL_law 293 = .ok (.iconst 0, 1) := by decide +kernel
theorem dL_law_294 : decode cL_law 294 = .ok (.invokevirtual 23, 3) := by decide +kernel
theorem dL_law_297 : decode cL_law 297 = .ok (.aload_n 2, 1) := by decide +kernel
theorem dL_law_298 : decode cL_law 298 = .ok (.aload_n 0, 1) := by decide +kernel
theorem dL_law_299 : decode cL_law 299 = .ok (.iload_n 3, 1) := by decide +kernel
theorem dL_law_300 : decode cL_law 300 = .ok (.iconst 1, 1) := by decide +kernel
theorem dL_law_301 : decode cL_law 301 = .ok (.iadd, 1) := by decide +kernel
theorem dL_law_302 : decode cL_law 302 = .ok (.iaload, 1) := by decide +kernel
theorem dL_law_303 : decode cL_law 303 = .ok (.aload_n 0, 1) := by decide +kernel
theorem dL_law_304 : decode cL_law 304 = .ok (.iload_n 3, 1) := by decide +kernel
theorem dL_law_305 : decode cL_law 305 = .ok (.iconst 2, 1) := by decide +kernel
theorem dL_law_306 : decode cL_law 306 = .ok (.iadd, 1) := by decide +kernel
theorem dL_law_307 : decode cL_law 307 = .ok (.iaload, 1) := by decide +kernel
theorem dL_law_308 : decode cL_law 308 = .ok (.aload_n 0, 1) := by decide +kernel
theorem dL_law_309 : decode cL_law 309 = .ok (.iload_n 3, 1) := by decide +kernel
theorem dL_law_310 : decode cL_law 310 = .ok (.iconst 3, 1) := by decide +kernel
theorem dL_law_311 : decode cL_law 311 = .ok (.iadd, 1) := by decide +kernel
theorem dL_law_312 : decode cL_law 312 = .ok (.iaload, 1) := by decide +kernel
theorem dL_law_313 : decode cL_law 313 = .ok (.ifCond .eq 7, 3) := by decide +kernel
theorem dL_law_316 : decode cL_law 316 = .ok (.iconst 1, 1) := by decide +kernel
theorem dL_law_317 : decode cL_law 317 = .ok (.goto 4, 3) := by decide +kernel
theorem dL_law_320 : decode cL_law 320 = .ok (.iconst 0, 1) := by decide +kernel
theorem dL_law_321 : decode cL_law 321 = .ok (.invokevirtual 27, 3) := by decide +kernel
theorem dL_law_324 : decode cL_law 324 = .ok (.if_icmp .eq 976, 3) := by decide +kernel
theorem dL_law_327 : decode cL_law 327 = .ok (.iconst 0, 1) := by decide +kernel
theorem dL_law_328 : decode cL_law 328 = .ok (.ireturn, 1) := by decide +kernel
theorem dL_law_329 : decode cL_law 329 = .ok (.aload_n 1, 1) := by decide +kernel
theorem dL_law_330 : decode cL_law 330 = .ok (.aload_n 0, 1) := by decide +kernel
theorem dL_law_331 : decode cL_law 331 = .ok (.iload_n 3, 1) := by decide +kernel
theorem dL_law_332 : decode cL_law 332 = .ok (.iconst 1, 1) := by decide +kernel
theorem dL_law_333 : decode cL_law 333 = .ok (.iadd, 1) := by decide +kernel
theorem dL_law_334 : decode cL_law 334 = .ok (.iaload, 1) := by decide +kernel
theorem dL_law_335 : decode cL_law 335 = .ok (.aload_n 0, 1) := by decide +kernel
theorem dL_law_336 : decode cL_law 336 = .ok (.iload_n 3, 1) := by decide +kernel
theorem dL_law_337 : decode cL_law 337 = .ok (.iconst 2, 1) := by decide +kernel
theorem dL_law_338 : decode cL_law 338 = .ok (.iadd, 1) := by decide +kernel
theorem dL_law_339 : decode cL_law 339 = .ok (.iaload, 1) := by decide +kernel
theorem dL_law_340 : decode cL_law 340 = .ok (.invokevirtual 28, 3) := by decide +kernel
theorem dL_law_343 : decode cL_law 343 = .ok (.aload_n 2, 1) := by decide +kernel
theorem dL_law_344 : decode cL_law 344 = .ok (.aload_n 0, 1) := by decide +kernel
theorem dL_law_345 : decode cL_law 345 = .ok (.iload_n 3, 1) := by decide +kernel
theorem dL_law_346 : decode cL_law 346 = .ok (.iconst 1, 1) := by decide +kernel
theorem dL_law_347 : decode cL_law 347 = .ok (.iadd, 1) := by decide +kernel
theorem dL_law_348 : decode cL_law 348 = .ok (.iaload, 1) := by decide +kernel
theorem dL_law_349 : decode cL_law 349 = .ok (.aload_n 0, 1) := by decide +kernel
theorem dL_law_350 : decode cL_law 350 = .ok (.iload_n 3, 1) := by decide +kernel
theorem dL_law_351 : decode cL_law 351 = .ok (.iconst 2, 1) := by decide +kernel
theorem dL_law_352 : decode cL_law 352 = .ok (.iadd, 1) := by decide +kernel
theorem dL_law_353 : decode cL_law 353 = .ok (.iaload, 1) := by decide +kernel
theorem dL_law_354 : decode cL_law 354 = .ok (.invokevirtual 31, 3) := by decide +kernel
theorem dL_law_357 : decode cL_law 357 = .ok (.if_icmp .eq 943, 3) := by decide +kernel
theorem dL_law_360 : decode cL_law 360 = .ok (.iconst 0, 1) := by decide +kernel
theorem dL_law_361 : decode cL_law 361 = .ok (.ireturn, 1) := by decide +kernel
theorem dL_law_362 : decode cL_law 362 = .ok (.aload_n 1, 1) := by decide +kernel
theorem dL_law_363 : decode cL_law 363 = .ok (.aload_n 0, 1) := by decide +kernel
theorem dL_law_364 : decode cL_law 364 = .ok (.iload_n 3, 1) := by decide +kernel
theorem dL_law_365 : decode cL_law 365 = .ok (.iconst 1, 1) := by decide +kernel
theorem dL_law_366 : decode cL_law 366 = .ok (.iadd, 1) := by decide +kernel
theorem dL_law_367 : decode cL_law 367 = .ok (.iaload, 1) := by decide +kernel
theorem dL_law_368 : decode cL_law 368 = .ok (.invokevirtual 32, 3) := by decide +kernel
theorem dL_law_371 : decode cL_law 371 = .ok (.aload_n 2, 1) := by decide +kernel
theorem dL_law_372 : decode cL_law 372 = .ok (.aload_n 0, 1) := by decide +kernel
theorem dL_law_373 : decode cL_law 373 = .ok (.iload_n 3, 1) := by decide +kernel
theorem dL_law_374 : decode cL_law 374 = .ok (.iconst 1, 1) := by decide +kernel
theorem dL_law_375 : decode cL_law 375 = .ok (.iadd, 1) := by decide +kernel
theorem dL_law_376 : decode cL_law 376 = .ok (.iaload, 1) := by decide +kernel
theorem dL_law_377 : decode cL_law 377 = .ok (.invokevirtual 36, 3) := by decide +kernel
theorem dL_law_380 : decode cL_law 380 = .ok (.if_icmp .eq 920, 3) := by decide +kernel
theorem dL_law_383 : decode cL_law 383 = .ok (.iconst 0, 1) := by decide +kernel
theorem dL_law_384 : decode cL_law 384 = .ok (.ireturn, 1) := by decide +kernel
theorem dL_law_385 : decode cL_law 385 = .ok (.aload_n 1, 1) := by decide +kernel
theorem dL_law_386 : decode cL_law 386 = .ok (.aload_n 0, 1) := by decide +kernel
theorem dL_law_387 : decode cL_law 387 = .ok (.iload_n 3, 1) := by decide +kernel
theorem dL_law_388 : decode cL_law 388 = .ok (.iconst 1, 1) := by decide +kernel
theorem dL_law_389 : decode cL_law 389 = .ok (.iadd, 1) := by decide +kernel
theorem dL_law_390 : decode cL_law 390 = .ok (.iaload, 1) := by decide +kernel
theorem dL_law_391 : decode cL_law 391 = .ok (.aload_n 0, 1) := by decide +kernel
theorem dL_law_392 : decode cL_law 392 = .ok (.iload_n 3, 1) := by decide +kernel
theorem dL_law_393 : decode cL_law 393 = .ok (.iconst 2, 1) := by decide +kernel
theorem dL_law_394 : decode cL_law 394 = .ok (.iadd, 1) := by decide +kernel
theorem dL_law_395 : decode cL_law 395 = .ok (.iaload, 1) := by decide +kernel
theorem dL_law_396 : decode cL_law 396 = .ok (.invokevirtual 37, 3) := by decide +kernel
theorem dL_law_399 : decode cL_law 399 = .ok (.aload_n 2, 1) := by decide +kernel
theorem dL_law_400 : decode cL_law 400 = .ok (.aload_n 0, 1) := by decide +kernel
theorem dL_law_401 : decode cL_law 401 = .ok (.iload_n 3, 1) := by decide +kernel
theorem dL_law_402 : decode cL_law 402 = .ok (.iconst 1, 1) := by decide +kernel
theorem dL_law_403 : decode cL_law 403 = .ok (.iadd, 1) := by decide +kernel
theorem dL_law_404 : decode cL_law 404 = .ok (.iaload, 1) := by decide +kernel
theorem dL_law_405 : decode cL_law 405 = .ok (.aload_n 0, 1) := by decide +kernel
theorem dL_law_406 : decode cL_law 406 = .ok (.iload_n 3, 1) := by decide +kernel
theorem dL_law_407 : decode cL_law 407 = .ok (.iconst 2, 1) := by decide +kernel
theorem dL_law_408 : decode cL_law 408 = .ok (.iadd, 1) := by decide +kernel
theorem dL_law_409 : decode cL_law 409 = .ok (.iaload, 1) := by decide +kernel
theorem dL_law_410 : decode cL_law 410 = .ok (.invokevirtual 40, 3) := by decide +kernel
theorem dL_law_413 : decode cL_law 413 = .ok (.if_icmp .eq 887, 3) := by decide +kernel
theorem dL_law_416 : decode cL_law 416 = .ok (.iconst 0, 1) := by decide +kernel
theorem dL_law_417 : decode cL_law 417 = .ok (.ireturn, 1) := by decide +kernel
theorem dL_law_418 : decode cL_law 418 = .ok (.aload_n 1, 1) := by decide +kernel
theorem dL_law_419 : decode cL_law 419 = .ok (.aload_n 0, 1) := by decide +kernel
theorem dL_law_420 : decode cL_law 420 = .ok (.iload_n 3, 1) := by decide +kernel
theorem dL_law_421 : decode cL_law 421 = .ok (.iconst 1, 1) := by decide +kernel
theorem dL_law_422 : decode cL_law 422 = .ok (.iadd, 1) := by decide +kernel
theorem dL_law_423 : decode cL_law 423 = .ok (.iaload, 1) := by decide +kernel
theorem dL_law_424 : decode cL_law 424 = .ok (.invokevirtual 41, 3) := by decide +kernel
theorem dL_law_427 : decode cL_law 427 = .ok (.aload_n 2, 1) := by decide +kernel
theorem dL_law_428 : decode cL_law 428 = .ok (.aload_n 0, 1) := by decide +kernel
theorem dL_law_429 : decode cL_law 429 = .ok (.iload_n 3, 1) := by decide +kernel
theorem dL_law_430 : decode cL_law 430 = .ok (.iconst 1, 1) := by decide +kernel
theorem dL_law_431 : decode cL_law 431 = .ok (.iadd, 1) := by decide +kernel
theorem dL_law_432 : decode cL_law 432 = .ok (.iaload, 1) := by decide +kernel
theorem dL_law_433 : decode cL_law 433 = .ok (.invokevirtual 44, 3) := by decide +kernel
theorem dL_law_436 : decode cL_law 436 = .ok (.if_icmp .eq 864, 3) := by decide +kernel
theorem dL_law_439 : decode cL_law 439 = .ok (.iconst 0, 1) := by decide +kernel
theorem dL_law_440 : decode cL_law 440 = .ok (.ireturn, 1) := by decide +kernel
theorem dL_law_441 : decode cL_law 441 = .ok (.aload_n 1, 1) := by decide +kernel
theorem dL_law_442 : decode cL_law 442 = .ok (.aload_n 0, 1) := by decide +kernel
theorem dL_law_443 : decode cL_law 443 = .ok (.iload_n 3, 1) := by decide +kernel
theorem dL_law_444 : decode cL_law 444 = .ok (.iconst 1, 1) := by decide +kernel
theorem dL_law_445 : decode cL_law 445 = .ok (.iadd, 1) := by decide +kernel
theorem dL_law_446 : decode cL_law 446 = .ok (.iaload, 1) := by decide +kernel
theorem dL_law_447 : decode cL_law 447 = .ok (.invokevirtual 45, 3) := by decide +kernel
theorem dL_law_450 : decode cL_law 450 = .ok (.aload_n 2, 1) := by decide +kernel
theorem dL_law_451 : decode cL_law 451 = .ok (.aload_n 0, 1) := by decide +kernel
theorem dL_law_452 : decode cL_law 452 = .ok (.iload_n 3, 1) := by decide +kernel
theorem dL_law_453 : decode cL_law 453 = .ok (.iconst 1, 1) := by decide +kernel
theorem dL_law_454 : decode cL_law 454 = .ok (.iadd, 1) := by decide +kernel
theorem dL_law_455 : decode cL_law 455 = .ok (.iaload, 1) := by decide +kernel
theorem dL_law_456 : decode cL_law 456 = .ok (.invokevirtual 48, 3) := by decide +kernel
theorem dL_law_459 : decode cL_law 459 = .ok (.if_icmp .eq 841, 3) := by decide +kernel
theorem dL_law_462 : decode cL_law 462 = .ok (.iconst 0, 1) := by decide +kernel
theorem dL_law_463 : decode cL_law 463 = .ok (.ireturn, 1) := by decide +kernel
theorem dL_law_464 : decode cL_law 464 = .ok (.aload_n 1, 1) := by decide +kernel
theorem dL_law_465 : decode cL_law 465 = .ok (.aload_n 0, 1) := by decide +kernel
theorem dL_law_466 : decode cL_law 466 = .ok (.iload_n 3, 1) := by decide +kernel
theorem dL_law_467 : decode cL_law 467 = .ok (.iconst 1, 1) := by decide +kernel
theorem dL_law_468 : decode cL_law 468 = .ok (.iadd, 1) := by decide +kernel
theorem dL_law_469 : decode cL_law 469 = .ok (.iaload, 1) := by decide +kernel
theorem dL_law_470 : decode cL_law 470 = .ok (.aload_n 0, 1) := by decide +kernel
theorem dL_law_471 : decode cL_law 471 = .ok (.iload_n 3, 1) := by decide +kernel
theorem dL_law_472 : decode cL_law 472 = .ok (.iconst 2, 1) := by decide +kernel
theorem dL_law_473 : decode cL_law 473 = .ok (.iadd, 1) := by decide +kernel
theorem dL_law_474 : decode cL_law 474 = .ok (.iaload, 1) := by decide +kernel
theorem dL_law_475 : decode cL_law 475 = .ok (.invokevirtual 49, 3) := by decide +kernel
theorem dL_law_478 : decode cL_law 478 = .ok (.aload_n 2, 1) := by decide +kernel
theorem dL_law_479 : decode cL_law 479 = .ok (.aload_n 0, 1) := by decide +kernel
theorem dL_law_480 : decode cL_law 480 = .ok (.iload_n 3, 1) := by decide +kernel
theorem dL_law_481 : decode cL_law 481 = .ok (.iconst 1, 1) := by decide +kernel
theorem dL_law_482 : decode cL_law 482 = .ok (.iadd, 1) := by decide +kernel
theorem dL_law_483 : decode cL_law 483 = .ok (.iaload, 1) := by decide +kernel
theorem dL_law_484 : decode cL_law 484 = .ok (.aload_n 0, 1) := by decide +kernel
theorem dL_law_485 : decode cL_law 485 = .ok (.iload_n 3, 1) := by decide +kernel
theorem dL_law_486 : decode cL_law 486 = .ok (.iconst 2, 1) := by decide +kernel
theorem dL_law_487 : decode cL_law 487 = .ok (.iadd, 1) := by decide +kernel
theorem dL_law_488 : decode cL_law 488 = .ok (.iaload, 1) := by decide +kernel
theorem dL_law_489 : decode cL_law 489 = .ok (.invokevirtual 52, 3) := by decide +kernel
theorem dL_law_492 : decode cL_law 492 = .ok (.if_icmp .eq 808, 3) := by decide +kernel
theorem dL_law_495 : decode cL_law 495 = .ok (.iconst 0, 1) := by decide +kernel
theorem dL_law_496 : decode cL_law 496 = .ok (.ireturn, 1) := by decide +kernel
theorem dL_law_497 : decode cL_law 497 = .ok (.aload_n 1, 1) := by decide +kernel
theorem dL_law_498 : decode cL_law 498 = .ok (.aload_n 0, 1) := by decide +kernel
theorem dL_law_499 : decode cL_law 499 = .ok (.iload_n 3, 1) := by decide +kernel
theorem dL_law_500 : decode cL_law 500 = .ok (.iconst 1, 1) := by decide +kernel
theorem dL_law_501 : decode cL_law 501 = .ok (.iadd, 1) := by decide +kernel
theorem dL_law_502 : decode cL_law 502 = .ok (.iaload, 1) := by decide +kernel
theorem dL_law_503 : decode cL_law 503 = .ok (.aload_n 0, 1) := by decide +kernel
theorem dL_law_504 : decode cL_law 504 = .ok (.iload_n 3, 1) := by decide +kernel
theorem dL_law_505 : decode cL_law 505 = .ok (.iconst 2, 1) := by decide +kernel
theorem dL_law_506 : decode cL_law 506 = .ok (.iadd, 1) := by decide +kernel
theorem dL_law_507 : decode cL_law 507 = .ok (.iaload, 1) := by decide +kernel
theorem dL_law_508 : decode cL_law 508 = .ok (.invokevirtual 53, 3) := by decide +kernel
theorem dL_law_511 : decode cL_law 511 = .ok (.aload_n 2, 1) := by decide +kernel
theorem dL_law_512 : decode cL_law 512 = .ok (.aload_n 0, 1) := by decide +kernel
theorem dL_law_513 : decode cL_law 513 = .ok (.iload_n 3, 1) := by decide +kernel
theorem dL_law_514 : decode cL_law 514 = .ok (.iconst 1, 1) := by decide +kernel
theorem dL_law_515 : decode cL_law 515 = .ok (.iadd, 1) := by decide +kernel
theorem dL_law_516 : decode cL_law 516 = .ok (.iaload, 1) := by decide +kernel
theorem dL_law_517 : decode cL_law 517 = .ok (.aload_n 0, 1) := by decide +kernel
theorem dL_law_518 : decode cL_law 518 = .ok (.iload_n 3, 1) := by decide +kernel
theorem dL_law_519 : decode cL_law 519 = .ok (.iconst 2, 1) := by decide +kernel
theorem dL_law_520 : decode cL_law 520 = .ok (.iadd, 1) := by decide +kernel
theorem dL_law_521 : decode cL_law 521 = .ok (.iaload, 1) := by decide +kernel
theorem dL_law_522 : decode cL_law 522 = .ok (.invokevirtual 56, 3) := by decide +kernel
theorem dL_law_525 : decode cL_law 525 = .ok (.if_icmp .eq 775, 3) := by decide +kernel
theorem dL_law_528 : decode cL_law 528 = .ok (.iconst 0, 1) := by decide +kernel
theorem dL_law_529 : decode cL_law 529 = .ok (.ireturn, 1) := by decide +kernel
theorem dL_law_530 : decode cL_law 530 = .ok (.aload_n 1, 1) := by decide +kernel
theorem dL_law_531 : decode cL_law 531 = .ok (.aload_n 0, 1) := by decide +kernel
theorem dL_law_532 : decode cL_law 532 = .ok (.iload_n 3, 1) := by decide +kernel
theorem dL_law_533 : decode cL_law 533 = .ok (.iconst 1, 1) := by decide +kernel
theorem dL_law_534 : decode cL_law 534 = .ok (.iadd, 1) := by decide +kernel
theorem dL_law_535 : decode cL_law 535 = .ok (.iaload, 1) := by decide +kernel
theorem dL_law_536 : decode cL_law 536 = .ok (.invokevirtual 57, 3) := by decide +kernel
theorem dL_law_539 : decode cL_law 539 = .ok (.aload_n 2, 1) := by decide +kernel
theorem dL_law_540 : decode cL_law 540 = .ok (.aload_n 0, 1) := by decide +kernel
theorem dL_law_541 : decode cL_law 541 = .ok (.iload_n 3, 1) := by decide +kernel
theorem dL_law_542 : decode cL_law 542 = .ok (.iconst 1, 1) := by decide +kernel
theorem dL_law_543 : decode cL_law 543 = .ok (.iadd, 1) := by decide +kernel
theorem dL_law_544 : decode cL_law 544 = .ok (.iaload, 1) := by decide +kernel
theorem dL_law_545 : decode cL_law 545 = .ok (.invokevirtual 60, 3) := by decide +kernel
theorem dL_law_548 : decode cL_law 548 = .ok (.if_icmp .eq 752, 3) := by decide +kernel
theorem dL_law_551 : decode cL_law 551 = .ok (.iconst 0, 1) := by decide +kernel
theorem dL_law_552 : decode cL_law 552 = .ok (.ireturn, 1) := by decide +kernel
theorem dL_law_553 : decode cL_law 553 = .ok (.aload_n 1, 1) := by decide +kernel
theorem dL_law_554 : decode cL_law 554 = .ok (.aload_n 0, 1) := by decide +kernel
theorem dL_law_555 : decode cL_law 555 = .ok (.iload_n 3, 1) := by decide +kernel
theorem dL_law_556 : decode cL_law 556 = .ok (.iconst 1, 1) := by decide +kernel
theorem dL_law_557 : decode cL_law 557 = .ok (.iadd, 1) := by decide +kernel
theorem dL_law_558 : decode cL_law 558 = .ok (.iaload, 1) := by decide +kernel
theorem dL_law_559 : decode cL_law 559 = .ok (.invokevirtual 61, 3) := by decide +kernel
theorem dL_law_562 : decode cL_law 562 = .ok (.aload_n 2, 1) := by decide +kernel
theorem dL_law_563 : decode cL_law 563 = .ok (.aload_n 0, 1) := by decide +kernel
theorem dL_law_564 : decode cL_law 564 = .ok (.iload_n 3, 1) := by decide +kernel
theorem dL_law_565 : decode cL_law 565 = .ok (.iconst 1, 1) := by decide +kernel
theorem dL_law_566 : decode cL_law 566 = .ok (.iadd, 1) := by decide +kernel
theorem dL_law_567 : decode cL_law 567 = .ok (.iaload, 1) := by decide +kernel
theorem dL_law_568 : decode cL_law 568 = .ok (.invokevirtual 64, 3) := by decide +kernel
theorem dL_law_571 : decode cL_law 571 = .ok (.if_icmp .eq 729, 3) := by decide +kernel
theorem dL_law_574 : decode cL_law 574 = .ok (.iconst 0, 1) := by decide +kernel
theorem dL_law_575 : decode cL_law 575 = .ok (.ireturn, 1) := by decide +kernel
theorem dL_law_576 : decode cL_law 576 = .ok (.aload_n 1, 1) := by decide +kernel
theorem dL_law_577 : decode cL_law 577 = .ok (.aload_n 0, 1) := by decide +kernel
theorem dL_law_578 : decode cL_law 578 = .ok (.iload_n 3, 1) := by decide +kernel
theorem dL_law_579 : decode cL_law 579 = .ok (.iconst 1, 1) := by decide +kernel
theorem dL_law_580 : decode cL_law 580 = .ok (.iadd, 1) := by decide +kernel
theorem dL_law_581 : decode cL_law 581 = .ok (.iaload, 1) := by decide +kernel
theorem dL_law_582 : decode cL_law 582 = .ok (.invokevirtual 65, 3) := by decide +kernel
theorem dL_law_585 : decode cL_law 585 = .ok (.aload_n 2, 1) := by decide +kernel
theorem dL_law_586 : decode cL_law 586 = .ok (.aload_n 0, 1) := by decide +kernel
theorem dL_law_587 : decode cL_law 587 = .ok (.iload_n 3, 1) := by decide +kernel
theorem dL_law_588 : decode cL_law 588 = .ok (.iconst 1, 1) := by decide +kernel
theorem dL_law_589 : decode cL_law 589 = .ok (.iadd, 1) := by decide +kernel
theorem dL_law_590 : decode cL_law 590 = .ok (.iaload, 1) := by decide +kernel
theorem dL_law_591 : decode cL_law 591 = .ok (.invokevirtual 68, 3) := by decide +kernel
