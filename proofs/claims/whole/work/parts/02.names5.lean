theorem dX11_harm_34 : decode cX11_harm 34 = .ok (.iaload, 1) := by decide +kernel
theorem dX11_harm_35 : decode cX11_harm 35 = .ok (.ireturn, 1) := by decide +kernel
set_option maxRecDepth 20000 in
theorem ggX11_skills_X11_noSleeper : GoodIn wsX11_skills wsX11_noSleeper := goodIn_r _ [6, 7, 8, 9, 5, 10, 48, 49, 50, 51, 52, 53, 54, 55, 56, 57, 58, 59, 60, 61, 62, 63, 64, 65, 66, 67, 68, 69, 70, 71, 72, 73, 74, 75, 76, 77, 78] (by decide +kernel) (by decide +kernel)
set_option maxRecDepth 20000 in
theorem gX11_skills_X11_noSleeper : GoodIn wsX11_skills (wsV RX11 150 RX11 yX11_noSleeper wsX11_noSleeper) := goodIn_app (goodIn_of _ (by decide +kernel)) ggX11_skills_X11_noSleeper
set_option maxRecDepth 20000 in
theorem ggX11_skills_X11_isMonth : GoodIn wsX11_skills wsX11_isMonth := goodIn_r _ [13, 14, 8, 9, 5, 10] (by decide +kernel) (by decide +kernel)
set_option maxRecDepth 20000 in
theorem gX11_skills_X11_isMonth : GoodIn wsX11_skills (va_wsS RX11 156 yX11_isMonth wsX11_isMonth) := goodIn_app (goodIn_of _ (by decide +kernel)) ggX11_skills_X11_isMonth
set_option maxRecDepth 20000 in
theorem ggX11_skills_X11_goTold : GoodIn wsX11_skills wsX11_goTold := goodIn_r _ [18, 19, 20, 21, 5, 22, 23, 24, 25, 26, 27, 28, 7, 29, 1, 30, 31, 32, 33, 34, 35, 36, 37, 38, 39, 40, 41, 42, 43, 44, 45, 46, 47, 48, 49, 50, 51, 52, 53, 54, 55, 56, 57, 58, 59, 60, 61, 62, 63, 64, 65, 66, 67, 68, 69, 70, 71, 72, 73, 74, 75, 76, 77, 78] (by decide +kernel) (by decide +kernel)
set_option maxRecDepth 20000 in
theorem gX11_skills_X11_goTold : GoodIn wsX11_skills (wsV RX11 176 RX11 yX11_goTold wsX11_goTold) := goodIn_app (goodIn_of _ (by decide +kernel)) ggX11_skills_X11_goTold
theorem dX11_skills_0 : decode cX11_skills 0 = .ok (.aload_n 0, 1) := by decide +kernel
theorem dX11_skills_1 : decode cX11_skills 1 = .ok (.iload_n 1, 1) := by decide +kernel
theorem dX11_skills_2 : decode cX11_skills 2 = .ok (.invokevirtual 150, 3) := by decide +kernel
theorem dX11_skills_5 : decode cX11_skills 5 = .ok (.ifCond .eq 5, 3) := by decide +kernel
theorem dX11_skills_8 : decode cX11_skills 8 = .ok (.iconst (-1), 1) := by decide +kernel
theorem dX11_skills_9 : decode cX11_skills 9 = .ok (.ireturn, 1) := by decide +kernel
theorem dX11_skills_10 : decode cX11_skills 10 = .ok (.iload_n 2, 1) := by decide +kernel
theorem dX11_skills_11 : decode cX11_skills 11 = .ok (.invokestatic 156, 3) := by decide +kernel
theorem dX11_skills_14 : decode cX11_skills 14 = .ok (.ifCond .ne 6, 3) := by decide +kernel
theorem dX11_skills_17 : decode cX11_skills 17 = .ok (.bipush (-2), 2) := by decide +kernel
theorem dX11_skills_19 : decode cX11_skills 19 = .ok (.ireturn, 1) := by decide +kernel
theorem dX11_skills_20 : decode cX11_skills 20 = .ok (.aload_n 0, 1) := by decide +kernel
theorem dX11_skills_21 : decode cX11_skills 21 = .ok (.invokevirtual 176, 3) := by decide +kernel
theorem dX11_skills_24 : decode cX11_skills 24 = .ok (.aload_n 0, 1) := by decide +kernel
theorem dX11_skills_25 : decode cX11_skills 25 = .ok (.getfield 43, 3) := by decide +kernel
theorem dX11_skills_28 : decode cX11_skills 28 = .ok (.bipush 6, 2) := by decide +kernel
theorem dX11_skills_30 : decode cX11_skills 30 = .ok (.iload_n 2, 1) := by decide +kernel
theorem dX11_skills_31 : decode cX11_skills 31 = .ok (.imul, 1) := by decide +kernel
theorem dX11_skills_32 : decode cX11_skills 32 = .ok (.iload_n 1, 1) := by decide +kernel
theorem dX11_skills_33 : decode cX11_skills 33 = .ok (.iadd, 1) := by decide +kernel
theorem dX11_skills_34 : decode cX11_skills 34 = .ok (.iaload, 1) := by decide +kernel
theorem dX11_skills_35 : decode cX11_skills 35 = .ok (.ireturn, 1) := by decide +kernel
set_option maxRecDepth 20000 in
theorem ggX11_lackedIn_X11_togetherIn : GoodIn wsX11_lackedIn wsX11_togetherIn := goodIn_r _ [6, 7, 8, 9, 10, 11, 5, 12, 13, 14, 15, 16, 17, 18, 19, 20, 21, 22, 23, 24, 25, 26, 27, 28, 29, 30, 31, 32, 33, 34, 35, 36, 37, 38, 39, 40, 41, 42, 43] (by decide +kernel) (by decide +kernel)
set_option maxRecDepth 20000 in
theorem gX11_lackedIn_X11_togetherIn : GoodIn wsX11_lackedIn (wsV RX11 164 RX11 yX11_togetherIn wsX11_togetherIn) := goodIn_app (goodIn_of _ (by decide +kernel)) ggX11_lackedIn_X11_togetherIn
theorem dX11_lackedIn_0 : decode cX11_lackedIn 0 = .ok (.aload_n 0, 1) := by decide +kernel
theorem dX11_lackedIn_1 : decode cX11_lackedIn 1 = .ok (.getfield 22, 3) := by decide +kernel
theorem dX11_lackedIn_4 : decode cX11_lackedIn 4 = .ok (.iload_n 1, 1) := by decide +kernel
theorem dX11_lackedIn_5 : decode cX11_lackedIn 5 = .ok (.iaload, 1) := by decide +kernel
theorem dX11_lackedIn_6 : decode cX11_lackedIn 6 = .ok (.aload_n 0, 1) := by decide +kernel
theorem dX11_lackedIn_7 : decode cX11_lackedIn 7 = .ok (.iload_n 1, 1) := by decide +kernel
theorem dX11_lackedIn_8 : decode cX11_lackedIn 8 = .ok (.invokevirtual 164, 3) := by decide +kernel
theorem dX11_lackedIn_11 : decode cX11_lackedIn 11 = .ok (.iconst (-1), 1) := by decide +kernel
theorem dX11_lackedIn_12 : decode cX11_lackedIn 12 = .ok (.ixor, 1) := by decide +kernel
theorem dX11_lackedIn_13 : decode cX11_lackedIn 13 = .ok (.iand, 1) := by decide +kernel
theorem dX11_lackedIn_14 : decode cX11_lackedIn 14 = .ok (.ireturn, 1) := by decide +kernel
theorem dX11_spentIn_0 : decode cX11_spentIn 0 = .ok (.bipush (-9), 2) := by decide +kernel
theorem dX11_spentIn_2 : decode cX11_spentIn 2 = .ok (.istore_n 2, 1) := by decide +kernel
theorem dX11_spentIn_3 : decode cX11_spentIn 3 = .ok (.iconst 0, 1) := by decide +kernel
theorem dX11_spentIn_4 : decode cX11_spentIn 4 = .ok (.istore_n 3, 1) := by decide +kernel
theorem dX11_spentIn_5 : decode cX11_spentIn 5 = .ok (.iload_n 3, 1) := by decide +kernel
theorem dX11_spentIn_6 : decode cX11_spentIn 6 = .ok (.aload_n 0, 1) := by decide +kernel
theorem dX11_spentIn_7 : decode cX11_spentIn 7 = .ok (.getfield 90, 3) := by decide +kernel
theorem dX11_spentIn_10 : decode cX11_spentIn 10 = .ok (.if_icmp .ge 39, 3) := by decide +kernel
theorem dX11_spentIn_13 : decode cX11_spentIn 13 = .ok (.iload_n 2, 1) := by decide +kernel
theorem dX11_spentIn_14 : decode cX11_spentIn 14 = .ok (.ifCond .ge 27, 3) := by decide +kernel
theorem dX11_spentIn_17 : decode cX11_spentIn 17 = .ok (.aload_n 0, 1) := by decide +kernel
theorem dX11_spentIn_18 : decode cX11_spentIn 18 = .ok (.getfield 46, 3) := by decide +kernel
theorem dX11_spentIn_21 : decode cX11_spentIn 21 = .ok (.bipush 6, 2) := by decide +kernel
theorem dX11_spentIn_23 : decode cX11_spentIn 23 = .ok (.iload_n 1, 1) := by decide +kernel
theorem dX11_spentIn_24 : decode cX11_spentIn 24 = .ok (.imul, 1) := by decide +kernel
theorem dX11_spentIn_25 : decode cX11_spentIn 25 = .ok (.iload_n 3, 1) := by decide +kernel
theorem dX11_spentIn_26 : decode cX11_spentIn 26 = .ok (.iadd, 1) := by decide +kernel
theorem dX11_spentIn_27 : decode cX11_spentIn 27 = .ok (.iaload, 1) := by decide +kernel
theorem dX11_spentIn_28 : decode cX11_spentIn 28 = .ok (.aload_n 0, 1) := by decide +kernel
theorem dX11_spentIn_29 : decode cX11_spentIn 29 = .ok (.getfield 16, 3) := by decide +kernel
theorem dX11_spentIn_32 : decode cX11_spentIn 32 = .ok (.iload_n 3, 1) := by decide +kernel
theorem dX11_spentIn_33 : decode cX11_spentIn 33 = .ok (.iaload, 1) := by decide +kernel
theorem dX11_spentIn_34 : decode cX11_spentIn 34 = .ok (.if_icmp .le 7, 3) := by decide +kernel
theorem dX11_spentIn_37 : decode cX11_spentIn 37 = .ok (.iload_n 3, 1) := by decide +kernel
theorem dX11_spentIn_38 : decode cX11_spentIn 38 = .ok (.goto 4, 3) := by decide +kernel
theorem dX11_spentIn_41 : decode cX11_spentIn 41 = .ok (.iload_n 2, 1) := by decide +kernel
theorem dX11_spentIn_42 : decode cX11_spentIn 42 = .ok (.istore_n 2, 1) := by decide +kernel
theorem dX11_spentIn_43 : decode cX11_spentIn 43 = .ok (.iinc 3 1, 3) := by decide +kernel
theorem dX11_spentIn_46 : decode cX11_spentIn 46 = .ok (.goto (-41), 3) := by decide +kernel
theorem dX11_spentIn_49 : decode cX11_spentIn 49 = .ok (.iload_n 2, 1) := by decide +kernel
theorem dX11_spentIn_50 : decode cX11_spentIn 50 = .ok (.ireturn, 1) := by decide +kernel
set_option maxRecDepth 20000 in
theorem ggX11_lacks_X11_isMonth : GoodIn wsX11_lacks wsX11_isMonth := goodIn_r _ [5, 6, 7, 8, 4, 9] (by decide +kernel) (by decide +kernel)
set_option maxRecDepth 20000 in
theorem gX11_lacks_X11_isMonth : GoodIn wsX11_lacks (va_wsS RX11 156 yX11_isMonth wsX11_isMonth) := goodIn_app (goodIn_of _ (by decide +kernel)) ggX11_lacks_X11_isMonth
set_option maxRecDepth 20000 in
theorem ggX11_lacks_X11_goTold : GoodIn wsX11_lacks wsX11_goTold := goodIn_r _ [13, 14, 15, 16, 4, 17, 18, 19, 20, 21, 22, 23, 1, 24, 25, 26, 27, 28, 29, 30, 31, 32, 33, 34, 35, 36, 37, 38, 39, 40, 41, 42, 43, 49, 50, 51, 52, 53, 54, 55, 56, 57, 58, 59, 60, 61, 62, 63, 64, 65, 66, 67, 68, 69, 70, 71, 72, 73, 74, 75, 76, 77, 78, 79] (by decide +kernel) (by decide +kernel)
set_option maxRecDepth 20000 in
theorem gX11_lacks_X11_goTold : GoodIn wsX11_lacks (wsV RX11 176 RX11 yX11_goTold wsX11_goTold) := goodIn_app (goodIn_of _ (by decide +kernel)) ggX11_lacks_X11_goTold
set_option maxRecDepth 20000 in
theorem ggX11_lacks_X11_lackedIn : GoodIn wsX11_lacks wsX11_lackedIn := goodIn_r _ [47, 48, 28, 29, 30, 4, 31, 1, 18, 25, 32, 33, 34, 49, 50, 51, 52, 53, 54, 55, 56, 57, 58, 59, 60, 61, 62, 63, 64, 65, 66, 67, 68, 69, 70, 71, 72, 73, 74, 75, 76, 77, 78, 79] (by decide +kernel) (by decide +kernel)
set_option maxRecDepth 20000 in
theorem gX11_lacks_X11_lackedIn : GoodIn wsX11_lacks (wsV RX11 179 RX11 yX11_lackedIn wsX11_lackedIn) := goodIn_app (goodIn_of _ (by decide +kernel)) ggX11_lacks_X11_lackedIn
theorem dX11_lacks_0 : decode cX11_lacks 0 = .ok (.iload_n 1, 1) := by decide +kernel
theorem dX11_lacks_1 : decode cX11_lacks 1 = .ok (.invokestatic 156, 3) := by decide +kernel
theorem dX11_lacks_4 : decode cX11_lacks 4 = .ok (.ifCond .ne 6, 3) := by decide +kernel
theorem dX11_lacks_7 : decode cX11_lacks 7 = .ok (.bipush (-2), 2) := by decide +kernel
theorem dX11_lacks_9 : decode cX11_lacks 9 = .ok (.ireturn, 1) := by decide +kernel
theorem dX11_lacks_10 : decode cX11_lacks 10 = .ok (.aload_n 0, 1) := by decide +kernel
theorem dX11_lacks_11 : decode cX11_lacks 11 = .ok (.getfield 90, 3) := by decide +kernel
theorem dX11_lacks_14 : decode cX11_lacks 14 = .ok (.ifCond .ne 6, 3) := by decide +kernel
theorem dX11_lacks_17 : decode cX11_lacks 17 = .ok (.bipush (-3), 2) := by decide +kernel
theorem dX11_lacks_19 : decode cX11_lacks 19 = .ok (.ireturn, 1) := by decide +kernel
theorem dX11_lacks_20 : decode cX11_lacks 20 = .ok (.aload_n 0, 1) := by decide +kernel
theorem dX11_lacks_21 : decode cX11_lacks 21 = .ok (.invokevirtual 176, 3) := by decide +kernel
theorem dX11_lacks_24 : decode cX11_lacks 24 = .ok (.aload_n 0, 1) := by decide +kernel
theorem dX11_lacks_25 : decode cX11_lacks 25 = .ok (.iload_n 1, 1) := by decide +kernel
theorem dX11_lacks_26 : decode cX11_lacks 26 = .ok (.invokevirtual 179, 3) := by decide +kernel
theorem dX11_lacks_29 : decode cX11_lacks 29 = .ok (.ireturn, 1) := by decide +kernel
set_option maxRecDepth 20000 in
theorem ggX11_wrong_X11_in : GoodIn wsX11_wrong wsX11_in := goodIn_r _ [6] (by decide +kernel) (by decide +kernel)
set_option maxRecDepth 20000 in
theorem gX11_wrong_X11_in : GoodIn wsX11_wrong (va_wsS RX11 93 yX11_in wsX11_in) := goodIn_app (goodIn_of _ (by decide +kernel)) ggX11_wrong_X11_in
set_option maxRecDepth 20000 in
theorem ggX11_wrong_X11_goTold : GoodIn wsX11_wrong wsX11_goTold := goodIn_r _ [10, 11, 12, 13, 5, 14, 15, 16, 17, 18, 19, 20, 2, 21, 22, 23, 24, 25, 26, 27, 28, 29, 30, 31, 32, 33, 34, 35, 36, 37, 38, 39, 40, 51, 52, 53, 54, 55, 56, 57, 58, 59, 60, 61, 62, 63, 64, 65, 66, 67, 68, 69, 70, 71, 72, 73, 74, 75, 76, 77, 78, 79, 80, 81] (by decide +kernel) (by decide +kernel)
set_option maxRecDepth 20000 in
theorem gX11_wrong_X11_goTold : GoodIn wsX11_wrong (wsV RX11 176 RX11 yX11_goTold wsX11_goTold) := goodIn_app (goodIn_of _ (by decide +kernel)) ggX11_wrong_X11_goTold
set_option maxRecDepth 20000 in
theorem ggX11_wrong_X11_lackedIn : GoodIn wsX11_wrong wsX11_lackedIn := goodIn_r _ [44, 45, 25, 26, 27, 5, 28, 2, 15, 22, 29, 30, 31, 51, 52, 53, 54, 55, 56, 57, 58, 59, 60, 61, 62, 63, 64, 65, 66, 67, 68, 69, 70, 71, 72, 73, 74, 75, 76, 77, 78, 79, 80, 81] (by decide +kernel) (by decide +kernel)
set_option maxRecDepth 20000 in
theorem gX11_wrong_X11_lackedIn : GoodIn wsX11_wrong (wsV RX11 179 RX11 yX11_lackedIn wsX11_lackedIn) := goodIn_app (goodIn_of _ (by decide +kernel)) ggX11_wrong_X11_lackedIn
set_option maxRecDepth 20000 in
theorem ggX11_wrong_X11_spentIn : GoodIn wsX11_wrong wsX11_spentIn := goodIn_r _ [49, 2, 24, 50, 51, 52, 53, 54, 55, 56, 57, 58, 59, 60, 61, 62, 63, 64, 65, 66, 67, 68, 69, 70, 71, 72, 73, 74, 75, 76, 77, 78, 79, 80, 81] (by decide +kernel) (by decide +kernel)
set_option maxRecDepth 20000 in
theorem gX11_wrong_X11_spentIn : GoodIn wsX11_wrong (wsV RX11 182 RX11 yX11_spentIn wsX11_spentIn) := goodIn_app (goodIn_of _ (by decide +kernel)) ggX11_wrong_X11_spentIn
theorem dX11_wrong_0 : decode cX11_wrong 0 = .ok (.iload_n 1, 1) := by decide +kernel
theorem dX11_wrong_1 : decode cX11_wrong 1 = .ok (.i2l, 1) := by decide +kernel
theorem dX11_wrong_2 : decode cX11_wrong 2 = .ok (.lconst 0, 1) := by decide +kernel
theorem dX11_wrong_3 : decode cX11_wrong 3 = .ok (.ldc2_w 132, 3) := by decide +kernel
theorem dX11_wrong_6 : decode cX11_wrong 6 = .ok (.invokestatic 93, 3) := by decide +kernel
theorem dX11_wrong_9 : decode cX11_wrong 9 = .ok (.ifCond .ne 6, 3) := by decide +kernel
theorem dX11_wrong_12 : decode cX11_wrong 12 = .ok (.bipush (-2), 2) := by decide +kernel
theorem dX11_wrong_14 : decode cX11_wrong 14 = .ok (.ireturn, 1) := by decide +kernel
theorem dX11_wrong_15 : decode cX11_wrong 15 = .ok (.aload_n 0, 1) := by decide +kernel
theorem dX11_wrong_16 : decode cX11_wrong 16 = .ok (.getfield 90, 3) := by decide +kernel
theorem dX11_wrong_19 : decode cX11_wrong 19 = .ok (.ifCond .ne 6, 3) := by decide +kernel
theorem dX11_wrong_22 : decode cX11_wrong 22 = .ok (.bipush (-3), 2) := by decide +kernel
theorem dX11_wrong_24 : decode cX11_wrong 24 = .ok (.ireturn, 1) := by decide +kernel
theorem dX11_wrong_25 : decode cX11_wrong 25 = .ok (.aload_n 0, 1) := by decide +kernel
theorem dX11_wrong_26 : decode cX11_wrong 26 = .ok (.invokevirtual 176, 3) := by decide +kernel
theorem dX11_wrong_29 : decode cX11_wrong 29 = .ok (.iconst 0, 1) := by decide +kernel
theorem dX11_wrong_30 : decode cX11_wrong 30 = .ok (.istore_n 2, 1) := by decide +kernel
theorem dX11_wrong_31 : decode cX11_wrong 31 = .ok (.iload_n 2, 1) := by decide +kernel
theorem dX11_wrong_32 : decode cX11_wrong 32 = .ok (.bipush 12, 2) := by decide +kernel
theorem dX11_wrong_34 : decode cX11_wrong 34 = .ok (.if_icmp .ge 48, 3) := by decide +kernel
theorem dX11_wrong_37 : decode cX11_wrong 37 = .ok (.iload_n 1, 1) := by decide +kernel
theorem dX11_wrong_38 : decode cX11_wrong 38 = .ok (.ifCond .ne 11, 3) := by decide +kernel
theorem dX11_wrong_41 : decode cX11_wrong 41 = .ok (.aload_n 0, 1) := by decide +kernel
theorem dX11_wrong_42 : decode cX11_wrong 42 = .ok (.iload_n 2, 1) := by decide +kernel
theorem dX11_wrong_43 : decode cX11_wrong 43 = .ok (.invokevirtual 179, 3) := by decide +kernel
theorem dX11_wrong_46 : decode cX11_wrong 46 = .ok (.ifCond .gt 15, 3) := by decide +kernel
theorem dX11_wrong_49 : decode cX11_wrong 49 = .ok (.iload_n 1, 1) := by decide +kernel
theorem dX11_wrong_50 : decode cX11_wrong 50 = .ok (.ifCond .le 26, 3) := by decide +kernel
theorem dX11_wrong_53 : decode cX11_wrong 53 = .ok (.aload_n 0, 1) := by decide +kernel
theorem dX11_wrong_54 : decode cX11_wrong 54 = .ok (.iload_n 2, 1) := by decide +kernel
theorem dX11_wrong_55 : decode cX11_wrong 55 = .ok (.invokevirtual 182, 3) := by decide +kernel
theorem dX11_wrong_58 : decode cX11_wrong 58 = .ok (.ifCond .lt 18, 3) := by decide +kernel
theorem dX11_wrong_61 : decode cX11_wrong 61 = .ok (.iload_n 1, 1) := by decide +kernel
theorem dX11_wrong_62 : decode cX11_wrong 62 = .ok (.iconst 2, 1) := by decide +kernel
theorem dX11_wrong_63 : decode cX11_wrong 63 = .ok (.if_icmp .ne 11, 3) := by decide +kernel
theorem dX11_wrong_66 : decode cX11_wrong 66 = .ok (.aload_n 0, 1) := by decide +kernel
theorem dX11_wrong_67 : decode cX11_wrong 67 = .ok (.iload_n 2, 1) := by decide +kernel
theorem dX11_wrong_68 : decode cX11_wrong 68 = .ok (.invokevirtual 182, 3) := by decide +kernel
theorem dX11_wrong_71 : decode cX11_wrong 71 = .ok (.goto 4, 3) := by decide +kernel
theorem dX11_wrong_74 : decode cX11_wrong 74 = .ok (.iload_n 2, 1) := by decide +kernel
theorem dX11_wrong_75 : decode cX11_wrong 75 = .ok (.ireturn, 1) := by decide +kernel
theorem dX11_wrong_76 : decode cX11_wrong 76 = .ok (.iinc 2 1, 3) := by decide +kernel
theorem dX11_wrong_79 : decode cX11_wrong 79 = .ok (.goto (-48), 3) := by decide +kernel
theorem dX11_wrong_82 : decode cX11_wrong 82 = .ok (.bipush (-9), 2) := by decide +kernel
theorem dX11_wrong_84 : decode cX11_wrong 84 = .ok (.ireturn, 1) := by decide +kernel
set_option maxRecDepth 20000 in
theorem ggX11_doMeet_X11_isIn : GoodIn wsX11_doMeet wsX11_isIn := goodIn_r _ [7] (by decide +kernel) (by decide +kernel)
set_option maxRecDepth 20000 in
theorem gX11_doMeet_X11_isIn : GoodIn wsX11_doMeet (va_wsS RX11 159 yX11_isIn wsX11_isIn) := goodIn_app (goodIn_of _ (by decide +kernel)) ggX11_doMeet_X11_isIn
theorem dX11_doMeet_0 : decode cX11_doMeet 0 = .ok (.iconst 0, 1) := by decide +kernel
theorem dX11_doMeet_1 : decode cX11_doMeet 1 = .ok (.istore_n 3, 1) := by decide +kernel
theorem dX11_doMeet_2 : decode cX11_doMeet 2 = .ok (.iconst 0, 1) := by decide +kernel
theorem dX11_doMeet_3 : decode cX11_doMeet 3 = .ok (.istore 4, 2) := by decide +kernel
theorem dX11_doMeet_5 : decode cX11_doMeet 5 = .ok (.iload 4, 2) := by decide +kernel
theorem dX11_doMeet_7 : decode cX11_doMeet 7 = .ok (.aload_n 0, 1) := by decide +kernel
theorem dX11_doMeet_8 : decode cX11_doMeet 8 = .ok (.getfield 90, 3) := by decide +kernel
theorem dX11_doMeet_11 : decode cX11_doMeet 11 = .ok (.if_icmp .ge 32, 3) := by decide +kernel
theorem dX11_doMeet_14 : decode cX11_doMeet 14 = .ok (.iload_n 3, 1) := by decide +kernel
theorem dX11_doMeet_15 : decode cX11_doMeet 15 = .ok (.iload_n 1, 1) := by decide +kernel
theorem dX11_doMeet_16 : decode cX11_doMeet 16 = .ok (.iload 4, 2) := by decide +kernel
theorem dX11_doMeet_18 : decode cX11_doMeet 18 = .ok (.invokestatic 159, 3) := by decide +kernel
theorem dX11_doMeet_21 : decode cX11_doMeet 21 = .ok (.ifCond .eq 13, 3) := by decide +kernel
theorem dX11_doMeet_24 : decode cX11_doMeet 24 = .ok (.aload_n 0, 1) := by decide +kernel
theorem dX11_doMeet_25 : decode cX11_doMeet 25 = .ok (.getfield 13, 3) := by decide +kernel
theorem dX11_doMeet_28 : decode cX11_doMeet 28 = .ok (.iload 4, 2) := by decide +kernel
theorem dX11_doMeet_30 : decode cX11_doMeet 30 = .ok (.iaload, 1) := by decide +kernel
theorem dX11_doMeet_31 : decode cX11_doMeet 31 = .ok (.goto 4, 3) := by decide +kernel
theorem dX11_doMeet_34 : decode cX11_doMeet 34 = .ok (.iconst 0, 1) := by decide +kernel
theorem dX11_doMeet_35 : decode cX11_doMeet 35 = .ok (.ior, 1) := by decide +kernel
theorem dX11_doMeet_36 : decode cX11_doMeet 36 = .ok (.istore_n 3, 1) := by decide +kernel
theorem dX11_doMeet_37 : decode cX11_doMeet 37 = .ok (.iinc 4 1, 3) := by decide +kernel
theorem dX11_doMeet_40 : decode cX11_doMeet 40 = .ok (.goto (-35), 3) := by decide +kernel
theorem dX11_doMeet_43 : decode cX11_doMeet 43 = .ok (.aload_n 0, 1) := by decide +kernel
theorem dX11_doMeet_44 : decode cX11_doMeet 44 = .ok (.getfield 22, 3) := by decide +kernel
theorem dX11_doMeet_47 : decode cX11_doMeet 47 = .ok (.iload_n 2, 1) := by decide +kernel
theorem dX11_doMeet_48 : decode cX11_doMeet 48 = .ok (.iaload, 1) := by decide +kernel
theorem dX11_doMeet_49 : decode cX11_doMeet 49 = .ok (.iload_n 3, 1) := by decide +kernel
theorem dX11_doMeet_50 : decode cX11_doMeet 50 = .ok (.iconst (-1), 1) := by decide +kernel
theorem dX11_doMeet_51 : decode cX11_doMeet 51 = .ok (.ixor, 1) := by decide +kernel
theorem dX11_doMeet_52 : decode cX11_doMeet 52 = .ok (.iand, 1) := by decide +kernel
theorem dX11_doMeet_53 : decode cX11_doMeet 53 = .ok (.ifCond .ne 7, 3) := by decide +kernel
theorem dX11_doMeet_56 : decode cX11_doMeet 56 = .ok (.iconst 1, 1) := by decide +kernel
theorem dX11_doMeet_57 : decode cX11_doMeet 57 = .ok (.goto 4, 3) := by decide +kernel
theorem dX11_doMeet_60 : decode cX11_doMeet 60 = .ok (.iconst 0, 1) := by decide +kernel
theorem dX11_doMeet_61 : decode cX11_doMeet 61 = .ok (.ireturn, 1) := by decide +kernel
set_option maxRecDepth 20000 in
theorem ggX11_cover_X11_isMonth : GoodIn wsX11_cover wsX11_isMonth := goodIn_r _ [5, 6, 7, 8, 4, 9] (by decide +kernel) (by decide +kernel)
set_option maxRecDepth 20000 in
theorem gX11_cover_X11_isMonth : GoodIn wsX11_cover (va_wsS RX11 156 yX11_isMonth wsX11_isMonth) := goodIn_app (goodIn_of _ (by decide +kernel)) ggX11_cover_X11_isMonth
set_option maxRecDepth 20000 in
theorem ggX11_cover_X11_all : GoodIn wsX11_cover wsX11_all := goodIn_r _ [13, 1, 26, 27, 28, 29, 30, 31, 32, 33, 34, 35, 36, 37, 38, 39, 40, 41, 42, 43, 44, 45, 46, 47, 48, 49, 50, 51, 52, 53, 54, 55, 56] (by decide +kernel) (by decide +kernel)
set_option maxRecDepth 20000 in
theorem gX11_cover_X11_all : GoodIn wsX11_cover (wsV RX11 185 RX11 yX11_all wsX11_all) := goodIn_app (goodIn_of _ (by decide +kernel)) ggX11_cover_X11_all
set_option maxRecDepth 20000 in
theorem ggX11_cover_X11_doMeet : GoodIn wsX11_cover wsX11_doMeet := goodIn_r _ [17, 1, 18, 19, 20, 21, 4, 22, 26, 27, 28, 29, 30, 31, 32, 33, 34, 35, 36, 37, 38, 39, 40, 41, 42, 43, 44, 45, 46, 47, 48, 49, 50, 51, 52, 53, 54, 55, 56] (by decide +kernel) (by decide +kernel)
set_option maxRecDepth 20000 in
theorem gX11_cover_X11_doMeet : GoodIn wsX11_cover (wsV RX11 189 RX11 yX11_doMeet wsX11_doMeet) := goodIn_app (goodIn_of _ (by decide +kernel)) ggX11_cover_X11_doMeet
set_option maxRecDepth 20000 in
theorem ggX11_cover_X11_bits : GoodIn wsX11_cover wsX11_bits := goodIn_r _ [25] (by decide +kernel) (by decide +kernel)
set_option maxRecDepth 20000 in
theorem gX11_cover_X11_bits : GoodIn wsX11_cover (va_wsS RX11 192 yX11_bits wsX11_bits) := goodIn_app (goodIn_of _ (by decide +kernel)) ggX11_cover_X11_bits
theorem dX11_cover_0 : decode cX11_cover 0 = .ok (.iload_n 1, 1) := by decide +kernel
theorem dX11_cover_1 : decode cX11_cover 1 = .ok (.invokestatic 156, 3) := by decide +kernel
theorem dX11_cover_4 : decode cX11_cover 4 = .ok (.ifCond .ne 6, 3) := by decide +kernel
theorem dX11_cover_7 : decode cX11_cover 7 = .ok (.bipush (-2), 2) := by decide +kernel
theorem dX11_cover_9 : decode cX11_cover 9 = .ok (.ireturn, 1) := by decide +kernel
theorem dX11_cover_10 : decode cX11_cover 10 = .ok (.aload_n 0, 1) := by decide +kernel
theorem dX11_cover_11 : decode cX11_cover 11 = .ok (.getfield 90, 3) := by decide +kernel
theorem dX11_cover_14 : decode cX11_cover 14 = .ok (.ifCond .ne 6, 3) := by decide +kernel
theorem dX11_cover_17 : decode cX11_cover 17 = .ok (.bipush (-3), 2) := by decide +kernel
theorem dX11_cover_19 : decode cX11_cover 19 = .ok (.ireturn, 1) := by decide +kernel
theorem dX11_cover_20 : decode cX11_cover 20 = .ok (.bipush (-9), 2) := by decide +kernel
theorem dX11_cover_22 : decode cX11_cover 22 = .ok (.istore_n 2, 1) := by decide +kernel
theorem dX11_cover_23 : decode cX11_cover 23 = .ok (.iconst 0, 1) := by decide +kernel
theorem dX11_cover_24 : decode cX11_cover 24 = .ok (.istore_n 3, 1) := by decide +kernel
theorem dX11_cover_25 : decode cX11_cover 25 = .ok (.iload_n 3, 1) := by decide +kernel
theorem dX11_cover_26 : decode cX11_cover 26 = .ok (.aload_n 0, 1) := by decide +kernel
theorem dX11_cover_27 : decode cX11_cover 27 = .ok (.invokevirtual 185, 3) := by decide +kernel
theorem dX11_cover_30 : decode cX11_cover 30 = .ok (.if_icmp .gt 39, 3) := by decide +kernel
theorem dX11_cover_33 : decode cX11_cover 33 = .ok (.aload_n 0, 1) := by decide +kernel
theorem dX11_cover_34 : decode cX11_cover 34 = .ok (.iload_n 3, 1) := by decide +kernel
theorem dX11_cover_35 : decode cX11_cover 35 = .ok (.iload_n 1, 1) := by decide +kernel
theorem dX11_cover_36 : decode cX11_cover 36 = .ok (.invokevirtual 189, 3) := by decide +kernel
theorem dX11_cover_39 : decode cX11_cover 39 = .ok (.ifCond .eq 22, 3) := by decide +kernel
theorem dX11_cover_42 : decode cX11_cover 42 = .ok (.iload_n 2, 1) := by decide +kernel
theorem dX11_cover_43 : decode cX11_cover 43 = .ok (.ifCond .lt 14, 3) := by decide +kernel
theorem dX11_cover_46 : decode cX11_cover 46 = .ok (.iload_n 3, 1) := by decide +kernel
theorem dX11_cover_47 : decode cX11_cover 47 = .ok (.invokestatic 192, 3) := by decide +kernel
theorem dX11_cover_50 : decode cX11_cover 50 = .ok (.iload_n 2, 1) := by decide +kernel
theorem dX11_cover_51 : decode cX11_cover 51 = .ok (.invokestatic 192, 3) := by decide +kernel
theorem dX11_cover_54 : decode cX11_cover 54 = .ok (.if_icmp .ge 7, 3) := by decide +kernel
theorem dX11_cover_57 : decode cX11_cover 57 = .ok (.iload_n 3, 1) := by decide +kernel
theorem dX11_cover_58 : decode cX11_cover 58 = .ok (.goto 4, 3) := by decide +kernel
theorem dX11_cover_61 : decode cX11_cover 61 = .ok (.iload_n 2, 1) := by decide +kernel
theorem dX11_cover_62 : decode cX11_cover 62 = .ok (.istore_n 2, 1) := by decide +kernel
theorem dX11_cover_63 : decode cX11_cover 63 = .ok (.iinc 3 1, 3) := by decide +kernel
theorem dX11_cover_66 : decode cX11_cover 66 = .ok (.goto (-41), 3) := by decide +kernel
theorem dX11_cover_69 : decode cX11_cover 69 = .ok (.iload_n 2, 1) := by decide +kernel
theorem dX11_cover_70 : decode cX11_cover 70 = .ok (.ireturn, 1) := by decide +kernel
set_option maxRecDepth 20000 in
theorem ggX11_harmOf_X11_isIn : GoodIn wsX11_harmOf wsX11_isIn := goodIn_r _ [5] (by decide +kernel) (by decide +kernel)
set_option maxRecDepth 20000 in
theorem gX11_harmOf_X11_isIn : GoodIn wsX11_harmOf (va_wsS RX11 159 yX11_isIn wsX11_isIn) := goodIn_app (goodIn_of _ (by decide +kernel)) ggX11_harmOf_X11_isIn
set_option maxRecDepth 20000 in
theorem ggX11_harmOf_X11_harmOnce : GoodIn wsX11_harmOf wsX11_harmOnce := goodIn_r _ [9, 10, 11, 12, 13, 14, 15, 16, 17, 18, 19, 20, 21, 22, 23, 24, 25, 26, 27, 28, 29, 30, 31, 32, 33, 34, 35, 36, 37, 38, 39, 40, 41] (by decide +kernel) (by decide +kernel)
set_option maxRecDepth 20000 in
theorem gX11_harmOf_X11_harmOnce : GoodIn wsX11_harmOf (wsV RX11 153 RX11 yX11_harmOnce wsX11_harmOnce) := goodIn_app (goodIn_of _ (by decide +kernel)) ggX11_harmOf_X11_harmOnce
theorem dX11_harmOf_0 : decode cX11_harmOf 0 = .ok (.iconst 0, 1) := by decide +kernel
theorem dX11_harmOf_1 : decode cX11_harmOf 1 = .ok (.istore_n 2, 1) := by decide +kernel
theorem dX11_harmOf_2 : decode cX11_harmOf 2 = .ok (.iconst 0, 1) := by decide +kernel
theorem dX11_harmOf_3 : decode cX11_harmOf 3 = .ok (.istore_n 3, 1) := by decide +kernel
theorem dX11_harmOf_4 : decode cX11_harmOf 4 = .ok (.iload_n 3, 1) := by decide +kernel
theorem dX11_harmOf_5 : decode cX11_harmOf 5 = .ok (.aload_n 0, 1) := by decide +kernel
theorem dX11_harmOf_6 : decode cX11_harmOf 6 = .ok (.getfield 90, 3) := by decide +kernel
theorem dX11_harmOf_9 : decode cX11_harmOf 9 = .ok (.if_icmp .ge 29, 3) := by decide +kernel
theorem dX11_harmOf_12 : decode cX11_harmOf 12 = .ok (.iload_n 2, 1) := by decide +kernel
theorem dX11_harmOf_13 : decode cX11_harmOf 13 = .ok (.iload_n 1, 1) := by decide +kernel
theorem dX11_harmOf_14 : decode cX11_harmOf 14 = .ok (.iload_n 3, 1) := by decide +kernel
theorem dX11_harmOf_15 : decode cX11_harmOf 15 = .ok (.invokestatic 159, 3) := by decide +kernel
theorem dX11_harmOf_18 : decode cX11_harmOf 18 = .ok (.ifCond .eq 11, 3) := by decide +kernel
theorem dX11_harmOf_21 : decode cX11_harmOf 21 = .ok (.aload_n 0, 1) := by decide +kernel
theorem dX11_harmOf_22 : decode cX11_harmOf 22 = .ok (.iload_n 3, 1) := by decide +kernel
theorem dX11_harmOf_23 : decode cX11_harmOf 23 = .ok (.invokevirtual 153, 3) := by decide +kernel
theorem dX11_harmOf_26 : decode cX11_harmOf 26 = .ok (.goto 4, 3) := by decide +kernel
theorem dX11_harmOf_29 : decode cX11_harmOf 29 = .ok (.iconst 0, 1) := by decide +kernel
theorem dX11_harmOf_30 : decode cX11_harmOf 30 = .ok (.iadd, 1) := by decide +kernel
theorem dX11_harmOf_31 : decode cX11_harmOf 31 = .ok (.istore_n 2, 1) := by decide +kernel
theorem dX11_harmOf_32 : decode cX11_harmOf 32 = .ok (.iinc 3 1, 3) := by decide +kernel
theorem dX11_harmOf_35 : decode cX11_harmOf 35 = .ok (.goto (-31), 3) := by decide +kernel
theorem dX11_harmOf_38 : decode cX11_harmOf 38 = .ok (.iload_n 2, 1) := by decide +kernel
theorem dX11_harmOf_39 : decode cX11_harmOf 39 = .ok (.ireturn, 1) := by decide +kernel
set_option maxRecDepth 20000 in
theorem ggX11_layLeast_X11_all : GoodIn wsX11_layLeast wsX11_all := goodIn_r _ [7, 8, 27, 28, 29, 30, 31, 32, 33, 34, 35, 36, 37, 38, 39, 40, 41, 42, 43, 44, 45, 46, 47, 48, 49, 50, 51, 52, 53, 54, 55, 56, 57] (by decide +kernel) (by decide +kernel)
set_option maxRecDepth 20000 in
theorem gX11_layLeast_X11_all : GoodIn wsX11_layLeast (wsV RX11 185 RX11 yX11_all wsX11_all) := goodIn_app (goodIn_of _ (by decide +kernel)) ggX11_layLeast_X11_all
set_option maxRecDepth 20000 in
theorem ggX11_layLeast_X11_doMeet : GoodIn wsX11_layLeast wsX11_doMeet := goodIn_r _ [12, 8, 13, 14, 15, 16, 6, 17, 27, 28, 29, 30, 31, 32, 33, 34, 35, 36, 37, 38, 39, 40, 41, 42, 43, 44, 45, 46, 47, 48, 49, 50, 51, 52, 53, 54, 55, 56, 57] (by decide +kernel) (by decide +kernel)
set_option maxRecDepth 20000 in
theorem gX11_layLeast_X11_doMeet : GoodIn wsX11_layLeast (wsV RX11 189 RX11 yX11_doMeet wsX11_doMeet) := goodIn_app (goodIn_of _ (by decide +kernel)) ggX11_layLeast_X11_doMeet
set_option maxRecDepth 20000 in
theorem ggX11_layLeast_X11_harmOf : GoodIn wsX11_layLeast wsX11_harmOf := goodIn_r _ [21, 8, 15, 16, 6, 17, 22, 23, 24, 25, 26, 27, 28, 29, 30, 31, 32, 33, 34, 35, 36, 37, 38, 39, 40, 41, 42, 43, 44, 45, 46, 47, 48, 49, 50, 51, 52, 53, 54, 55, 56, 57] (by decide +kernel) (by decide +kernel)
set_option maxRecDepth 20000 in
theorem gX11_layLeast_X11_harmOf : GoodIn wsX11_layLeast (wsV RX11 195 RX11 yX11_harmOf wsX11_harmOf) := goodIn_app (goodIn_of _ (by decide +kernel)) ggX11_layLeast_X11_harmOf
theorem dX11_layLeast_0 : decode cX11_layLeast 0 = .ok (.iconst 0, 1) := by decide +kernel
theorem dX11_layLeast_1 : decode cX11_layLeast 1 = .ok (.istore_n 1, 1) := by decide +kernel
theorem dX11_layLeast_2 : decode cX11_layLeast 2 = .ok (.iload_n 1, 1) := by decide +kernel
theorem dX11_layLeast_3 : decode cX11_layLeast 3 = .ok (.bipush 64, 2) := by decide +kernel
theorem dX11_layLeast_5 : decode cX11_layLeast 5 = .ok (.if_icmp .ge 20, 3) := by decide +kernel
theorem dX11_layLeast_8 : decode cX11_layLeast 8 = .ok (.aload_n 0, 1) := by decide +kernel
theorem dX11_layLeast_9 : decode cX11_layLeast 9 = .ok (.getfield 49, 3) := by decide +kernel
theorem dX11_layLeast_12 : decode cX11_layLeast 12 = .ok (.sipush 768, 3) := by decide +kernel
theorem dX11_layLeast_15 : decode cX11_layLeast 15 = .ok (.iload_n 1, 1) := by decide +kernel
theorem dX11_layLeast_16 : decode cX11_layLeast 16 = .ok (.iadd, 1) := by decide +kernel
theorem dX11_layLeast_17 : decode cX11_layLeast 17 = .ok (.iconst 0, 1) := by decide +kernel
theorem dX11_layLeast_18 : decode cX11_layLeast 18 = .ok (.iastore, 1) := by decide +kernel
theorem dX11_layLeast_19 : decode cX11_layLeast 19 = .ok (.iinc 1 1, 3) := by decide +kernel
theorem dX11_layLeast_22 : decode cX11_layLeast 22 = .ok (.goto (-20), 3) := by decide +kernel
theorem dX11_layLeast_25 : decode cX11_layLeast 25 = .ok (.bipush 11, 2) := by decide +kernel
theorem dX11_layLeast_27 : decode cX11_layLeast 27 = .ok (.istore_n 1, 1) := by decide +kernel
theorem dX11_layLeast_28 : decode cX11_layLeast 28 = .ok (.iload_n 1, 1) := by decide +kernel
theorem dX11_layLeast_29 : decode cX11_layLeast 29 = .ok (.ifCond .lt 146, 3) := by decide +kernel
theorem dX11_layLeast_32 : decode cX11_layLeast 32 = .ok (.iconst 0, 1) := by decide +kernel
theorem dX11_layLeast_33 : decode cX11_layLeast 33 = .ok (.istore_n 2, 1) := by decide +kernel
theorem dX11_layLeast_34 : decode cX11_layLeast 34 = .ok (.iload_n 2, 1) := by decide +kernel
theorem dX11_layLeast_35 : decode cX11_layLeast 35 = .ok (.aload_n 0, 1) := by decide +kernel
theorem dX11_layLeast_36 : decode cX11_layLeast 36 = .ok (.invokevirtual 185, 3) := by decide +kernel
theorem dX11_layLeast_39 : decode cX11_layLeast 39 = .ok (.if_icmp .gt 130, 3) := by decide +kernel
theorem dX11_layLeast_42 : decode cX11_layLeast 42 = .ok (.sipush 9999, 3) := by decide +kernel
theorem dX11_layLeast_45 : decode cX11_layLeast 45 = .ok (.istore_n 3, 1) := by decide +kernel
theorem dX11_layLeast_46 : decode cX11_layLeast 46 = .ok (.iconst 0, 1) := by decide +kernel
theorem dX11_layLeast_47 : decode cX11_layLeast 47 = .ok (.istore 4, 2) := by decide +kernel
theorem dX11_layLeast_49 : decode cX11_layLeast 49 = .ok (.iconst 0, 1) := by decide +kernel
theorem dX11_layLeast_50 : decode cX11_layLeast 50 = .ok (.istore 5, 2) := by decide +kernel
theorem dX11_layLeast_52 : decode cX11_layLeast 52 = .ok (.iload 5, 2) := by decide +kernel
theorem dX11_layLeast_54 : decode cX11_layLeast 54 = .ok (.aload_n 0, 1) := by decide +kernel
theorem dX11_layLeast_55 : decode cX11_layLeast 55 = .ok (.invokevirtual 185, 3) := by decide +kernel
theorem dX11_layLeast_58 : decode cX11_layLeast 58 = .ok (.if_icmp .gt 80, 3) := by decide +kernel
theorem dX11_layLeast_61 : decode cX11_layLeast 61 = .ok (.aload_n 0, 1) := by decide +kernel
theorem dX11_layLeast_62 : decode cX11_layLeast 62 = .ok (.iload 5, 2) := by decide +kernel
theorem dX11_layLeast_64 : decode cX11_layLeast 64 = .ok (.iload_n 1, 1) := by decide +kernel
theorem dX11_layLeast_65 : decode cX11_layLeast 65 = .ok (.invokevirtual 189, 3) := by decide +kernel
theorem dX11_layLeast_68 : decode cX11_layLeast 68 = .ok (.ifCond .eq 31, 3) := by decide +kernel
theorem dX11_layLeast_71 : decode cX11_layLeast 71 = .ok (.aload_n 0, 1) := by decide +kernel
theorem dX11_layLeast_72 : decode cX11_layLeast 72 = .ok (.iload 5, 2) := by decide +kernel
theorem dX11_layLeast_74 : decode cX11_layLeast 74 = .ok (.iload_n 2, 1) := by decide +kernel
theorem dX11_layLeast_75 : decode cX11_layLeast 75 = .ok (.iconst (-1), 1) := by decide +kernel
theorem dX11_layLeast_76 : decode cX11_layLeast 76 = .ok (.ixor, 1) := by decide +kernel
theorem dX11_layLeast_77 : decode cX11_layLeast 77 = .ok (.iand, 1) := by decide +kernel
theorem dX11_layLeast_78 : decode cX11_layLeast 78 = .ok (.invokevirtual 195, 3) := by decide +kernel
theorem dX11_layLeast_81 : decode cX11_layLeast 81 = .ok (.aload_n 0, 1) := by decide +kernel
theorem dX11_layLeast_82 : decode cX11_layLeast 82 = .ok (.getfield 49, 3) := by decide +kernel
theorem dX11_layLeast_85 : decode cX11_layLeast 85 = .ok (.bipush 64, 2) := by decide +kernel
theorem dX11_layLeast_87 : decode cX11_layLeast 87 = .ok (.iload_n 1, 1) := by decide +kernel
theorem dX11_layLeast_88 : decode cX11_layLeast 88 = .ok (.iconst 1, 1) := by decide +kernel
theorem dX11_layLeast_89 : decode cX11_layLeast 89 = .ok (.iadd, 1) := by decide +kernel
theorem dX11_layLeast_90 : decode cX11_layLeast 90 = .ok (.imul, 1) := by decide +kernel
theorem dX11_layLeast_91 : decode cX11_layLeast 91 = .ok (.iload 5, 2) := by decide +kernel
theorem dX11_layLeast_93 : decode cX11_layLeast 93 = .ok (.iadd, 1) := by decide +kernel
theorem dX11_layLeast_94 : decode cX11_layLeast 94 = .ok (.iaload, 1) := by decide +kernel
theorem dX11_layLeast_95 : decode cX11_layLeast 95 = .ok (.iadd, 1) := by decide +kernel
theorem dX11_layLeast_96 : decode cX11_layLeast 96 = .ok (.goto 6, 3) := by decide +kernel
theorem dX11_layLeast_99 : decode cX11_layLeast 99 = .ok (.sipush 9999, 3) := by decide +kernel
theorem dX11_layLeast_102 : decode cX11_layLeast 102 = .ok (.istore 6, 2) := by decide +kernel
theorem dX11_layLeast_104 : decode cX11_layLeast 104 = .ok (.iload 6, 2) := by decide +kernel
theorem dX11_layLeast_106 : decode cX11_layLeast 106 = .ok (.iload_n 3, 1) := by decide +kernel
theorem dX11_layLeast_107 : decode cX11_layLeast 107 = .ok (.if_icmp .ge 8, 3) := by decide +kernel
theorem dX11_layLeast_110 : decode cX11_layLeast 110 = .ok (.iload 5, 2) := by decide +kernel
theorem dX11_layLeast_112 : decode cX11_layLeast 112 = .ok (.goto 5, 3) := by decide +kernel
theorem dX11_layLeast_115 : decode cX11_layLeast 115 = .ok (.iload 4, 2) := by decide +kernel
theorem dX11_layLeast_117 : decode cX11_layLeast 117 = .ok (.istore 4, 2) := by decide +kernel
theorem dX11_layLeast_119 : decode cX11_layLeast 119 = .ok (.iload 6, 2) := by decide +kernel
theorem dX11_layLeast_121 : decode cX11_layLeast 121 = .ok (.iload_n 3, 1) := by decide +kernel
theorem dX11_layLeast_122 : decode cX11_layLeast 122 = .ok (.if_icmp .ge 8, 3) := by decide +kernel
theorem dX11_layLeast_125 : decode cX11_layLeast 125 = .ok (.iload 6, 2) := by decide +kernel
theorem dX11_layLeast_127 : decode cX11_layLeast 127 = .ok (.goto 4, 3) := by decide +kernel
theorem dX11_layLeast_130 : decode cX11_layLeast 130 = .ok (.iload_n 3, 1) := by decide +kernel
theorem dX11_layLeast_131 : decode cX11_layLeast 131 = .ok (.istore_n 3, 1) := by decide +kernel
theorem dX11_layLeast_132 : decode cX11_layLeast 132 = .ok (.iinc 5 1, 3) := by decide +kernel
theorem dX11_layLeast_135 : decode cX11_layLeast 135 = .ok (.goto (-83), 3) := by decide +kernel
theorem dX11_layLeast_138 : decode cX11_layLeast 138 = .ok (.aload_n 0, 1) := by decide +kernel
theorem dX11_layLeast_139 : decode cX11_layLeast 139 = .ok (.getfield 49, 3) := by decide +kernel
theorem dX11_layLeast_142 : decode cX11_layLeast 142 = .ok (.bipush 64, 2) := by decide +kernel
theorem dX11_layLeast_144 : decode cX11_layLeast 144 = .ok (.iload_n 1, 1) := by decide +kernel
theorem dX11_layLeast_145 : decode cX11_layLeast 145 = .ok (.imul, 1) := by decide +kernel
theorem dX11_layLeast_146 : decode cX11_layLeast 146 = .ok (.iload_n 2, 1) := by decide +kernel
theorem dX11_layLeast_147 : decode cX11_layLeast 147 = .ok (.iadd, 1) := by decide +kernel
theorem dX11_layLeast_148 : decode cX11_layLeast 148 = .ok (.iload_n 3, 1) := by decide +kernel
theorem dX11_layLeast_149 : decode cX11_layLeast 149 = .ok (.iastore, 1) := by decide +kernel
theorem dX11_layLeast_150 : decode cX11_layLeast 150 = .ok (.aload_n 0, 1) := by decide +kernel
theorem dX11_layLeast_151 : decode cX11_layLeast 151 = .ok (.getfield 52, 3) := by decide +kernel
theorem dX11_layLeast_154 : decode cX11_layLeast 154 = .ok (.bipush 64, 2) := by decide +kernel
theorem dX11_layLeast_156 : decode cX11_layLeast 156 = .ok (.iload_n 1, 1) := by decide +kernel
theorem dX11_layLeast_157 : decode cX11_layLeast 157 = .ok (.imul, 1) := by decide +kernel
theorem dX11_layLeast_158 : decode cX11_layLeast 158 = .ok (.iload_n 2, 1) := by decide +kernel
theorem dX11_layLeast_159 : decode cX11_layLeast 159 = .ok (.iadd, 1) := by decide +kernel
theorem dX11_layLeast_160 : decode cX11_layLeast 160 = .ok (.iload 4, 2) := by decide +kernel
theorem dX11_layLeast_162 : decode cX11_layLeast 162 = .ok (.iastore, 1) := by decide +kernel
theorem dX11_layLeast_163 : decode cX11_layLeast 163 = .ok (.iinc 2 1, 3) := by decide +kernel
theorem dX11_layLeast_166 : decode cX11_layLeast 166 = .ok (.goto (-132), 3) := by decide +kernel
theorem dX11_layLeast_169 : decode cX11_layLeast 169 = .ok (.iinc 1 (-1), 3) := by decide +kernel
theorem dX11_layLeast_172 : decode cX11_layLeast 172 = .ok (.goto (-144), 3) := by decide +kernel
theorem dX11_layLeast_175 : decode cX11_layLeast 175 = .ok (.return_, 1) := by decide +kernel
set_option maxRecDepth 20000 in
theorem ggX11_least_X11_isMonth : GoodIn wsX11_least wsX11_isMonth := goodIn_r _ [7, 8, 9, 10, 6, 11] (by decide +kernel) (by decide +kernel)
set_option maxRecDepth 20000 in
theorem gX11_least_X11_isMonth : GoodIn wsX11_least (va_wsS RX11 156 yX11_isMonth wsX11_isMonth) := goodIn_app (goodIn_of _ (by decide +kernel)) ggX11_least_X11_isMonth
set_option maxRecDepth 20000 in
theorem ggX11_least_X11_layLeast : GoodIn wsX11_least wsX11_layLeast := goodIn_r _ [15, 2, 3, 16, 17, 18, 6, 19, 1, 20, 21, 22, 23, 24, 25, 26, 27, 28, 29, 30, 31, 32, 33, 34, 35, 36, 37, 38, 39, 40, 41, 42, 43, 44, 45, 46, 47, 48, 49, 50, 51, 52, 53, 54, 55, 56, 57, 58, 59, 60, 61, 62, 63, 64, 65, 66, 67, 68] (by decide +kernel) (by decide +kernel)
set_option maxRecDepth 20000 in
theorem gX11_least_X11_layLeast : GoodIn wsX11_least (wsV RX11 198 RX11 yX11_layLeast wsX11_layLeast) := goodIn_app (goodIn_of _ (by decide +kernel)) ggX11_least_X11_layLeast
theorem dX11_least_0 : decode cX11_least 0 = .ok (.iload_n 1, 1) := by decide +kernel
theorem dX11_least_1 : decode cX11_least 1 = .ok (.iconst (-1), 1) := by decide +kernel
theorem dX11_least_2 : decode cX11_least 2 = .ok (.if_icmp .eq 13, 3) := by decide +kernel
theorem dX11_least_5 : decode cX11_least 5 = .ok (.iload_n 1, 1) := by decide +kernel
theorem dX11_least_6 : decode cX11_least 6 = .ok (.invokestatic 156, 3) := by decide +kernel
theorem dX11_least_9 : decode cX11_least 9 = .ok (.ifCond .ne 6, 3) := by decide +kernel
theorem dX11_least_12 : decode cX11_least 12 = .ok (.bipush (-2), 2) := by decide +kernel
theorem dX11_least_14 : decode cX11_least 14 = .ok (.ireturn, 1) := by decide +kernel
theorem dX11_least_15 : decode cX11_least 15 = .ok (.aload_n 0, 1) := by decide +kernel
theorem dX11_least_16 : decode cX11_least 16 = .ok (.getfield 90, 3) := by decide +kernel
theorem dX11_least_19 : decode cX11_least 19 = .ok (.ifCond .ne 6, 3) := by decide +kernel
theorem dX11_least_22 : decode cX11_least 22 = .ok (.bipush (-3), 2) := by decide +kernel
theorem dX11_least_24 : decode cX11_least 24 = .ok (.ireturn, 1) := by decide +kernel
theorem dX11_least_25 : decode cX11_least 25 = .ok (.aload_n 0, 1) := by decide +kernel
theorem dX11_least_26 : decode cX11_least 26 = .ok (.invokevirtual 198, 3) := by decide +kernel
theorem dX11_least_29 : decode cX11_least 29 = .ok (.aload_n 0, 1) := by decide +kernel
theorem dX11_least_30 : decode cX11_least 30 = .ok (.getfield 49, 3) := by decide +kernel
theorem dX11_least_33 : decode cX11_least 33 = .ok (.iconst 0, 1) := by decide +kernel
theorem dX11_least_34 : decode cX11_least 34 = .ok (.iaload, 1) := by decide +kernel
theorem dX11_least_35 : decode cX11_least 35 = .ok (.sipush 9999, 3) := by decide +kernel
theorem dX11_least_38 : decode cX11_least 38 = .ok (.if_icmp .lt 6, 3) := by decide +kernel
theorem dX11_least_41 : decode cX11_least 41 = .ok (.bipush (-9), 2) := by decide +kernel
theorem dX11_least_43 : decode cX11_least 43 = .ok (.ireturn, 1) := by decide +kernel
theorem dX11_least_44 : decode cX11_least 44 = .ok (.iconst 0, 1) := by decide +kernel
theorem dX11_least_45 : decode cX11_least 45 = .ok (.istore_n 2, 1) := by decide +kernel
theorem dX11_least_46 : decode cX11_least 46 = .ok (.iconst 0, 1) := by decide +kernel
theorem dX11_least_47 : decode cX11_least 47 = .ok (.istore_n 3, 1) := by decide +kernel
theorem dX11_least_48 : decode cX11_least 48 = .ok (.iload_n 3, 1) := by decide +kernel
theorem dX11_least_49 : decode cX11_least 49 = .ok (.iload_n 1, 1) := by decide +kernel
theorem dX11_least_50 : decode cX11_least 50 = .ok (.if_icmp .gt 21, 3) := by decide +kernel
theorem dX11_least_53 : decode cX11_least 53 = .ok (.aload_n 0, 1) := by decide +kernel
theorem dX11_least_54 : decode cX11_least 54 = .ok (.getfield 52, 3) := by decide +kernel
theorem dX11_least_57 : decode cX11_least 57 = .ok (.bipush 64, 2) := by decide +kernel
theorem dX11_least_59 : decode cX11_least 59 = .ok (.iload_n 3, 1) := by decide +kernel
theorem dX11_least_60 : decode cX11_least 60 = .ok (.imul, 1) := by decide +kernel
theorem dX11_least_61 : decode cX11_least 61 = .ok (.iload_n 2, 1) := by decide +kernel
theorem dX11_least_62 : decode cX11_least 62 = .ok (.iadd, 1) := by decide +kernel
theorem dX11_least_63 : decode cX11_least 63 = .ok (.iaload, 1) := by decide +kernel
theorem dX11_least_64 : decode cX11_least 64 = .ok (.istore_n 2, 1) := by decide +kernel
theorem dX11_least_65 : decode cX11_least 65 = .ok (.iinc 3 1, 3) := by decide +kernel
theorem dX11_least_68 : decode cX11_least 68 = .ok (.goto (-20), 3) := by decide +kernel
theorem dX11_least_71 : decode cX11_least 71 = .ok (.iload_n 1, 1) := by decide +kernel
theorem dX11_least_72 : decode cX11_least 72 = .ok (.ifCond .ge 12, 3) := by decide +kernel
theorem dX11_least_75 : decode cX11_least 75 = .ok (.aload_n 0, 1) := by decide +kernel
theorem dX11_least_76 : decode cX11_least 76 = .ok (.getfield 49, 3) := by decide +kernel
theorem dX11_least_79 : decode cX11_least 79 = .ok (.iconst 0, 1) := by decide +kernel
theorem dX11_least_80 : decode cX11_least 80 = .ok (.iaload, 1) := by decide +kernel
theorem dX11_least_81 : decode cX11_least 81 = .ok (.goto 4, 3) := by decide +kernel
theorem dX11_least_84 : decode cX11_least 84 = .ok (.iload_n 2, 1) := by decide +kernel
theorem dX11_least_85 : decode cX11_least 85 = .ok (.ireturn, 1) := by decide +kernel
set_option maxRecDepth 20000 in
theorem ggX11_judge_X11_noSheet : GoodIn wsX11_judge wsX11_noSheet := goodIn_r _ [8, 9, 10, 11, 7, 12] (by decide +kernel) (by decide +kernel)
set_option maxRecDepth 20000 in
theorem gX11_judge_X11_noSheet : GoodIn wsX11_judge (va_wsS RX11 125 yX11_noSheet wsX11_noSheet) := goodIn_app (goodIn_of _ (by decide +kernel)) ggX11_judge_X11_noSheet
set_option maxRecDepth 20000 in
theorem ggX11_judge_X11_refused : GoodIn wsX11_judge wsX11_refused := goodIn_r _ [16, 17, 69, 70, 71, 72, 73, 74, 75, 76, 77, 78, 79, 80, 81, 82, 83, 84, 85, 86, 87, 88, 89, 90, 91, 92, 93, 94, 95, 96, 97, 98, 99] (by decide +kernel) (by decide +kernel)
set_option maxRecDepth 20000 in
theorem gX11_judge_X11_refused : GoodIn wsX11_judge (wsV RX11 129 RX11 yX11_refused wsX11_refused) := goodIn_app (goodIn_of _ (by decide +kernel)) ggX11_judge_X11_refused
set_option maxRecDepth 20000 in
theorem ggX11_judge_X11_in : GoodIn wsX11_judge wsX11_in := goodIn_r _ [12] (by decide +kernel) (by decide +kernel)
set_option maxRecDepth 20000 in
theorem gX11_judge_X11_in : GoodIn wsX11_judge (va_wsS RX11 93 yX11_in wsX11_in) := goodIn_app (goodIn_of _ (by decide +kernel)) ggX11_judge_X11_in
set_option maxRecDepth 20000 in
theorem ggX11_judge_X11_cellsBarred : GoodIn wsX11_judge wsX11_cellsBarred := goodIn_r _ [21, 22, 23, 24, 25, 26, 7, 27, 17, 28, 29, 30, 69, 70, 71, 72, 73, 74, 75, 76, 77, 78, 79, 80, 81, 82, 83, 84, 85, 86, 87, 88, 89, 90, 91, 92, 93, 94, 95, 96, 97, 98, 99] (by decide +kernel) (by decide +kernel)
set_option maxRecDepth 20000 in
theorem gX11_judge_X11_cellsBarred : GoodIn wsX11_judge (wsV RX11 134 RX11 yX11_cellsBarred wsX11_cellsBarred) := goodIn_app (goodIn_of _ (by decide +kernel)) ggX11_judge_X11_cellsBarred
set_option maxRecDepth 20000 in
theorem ggX11_judge_X11_all : GoodIn wsX11_judge wsX11_all := goodIn_r _ [34, 2, 69, 70, 71, 72, 73, 74, 75, 76, 77, 78, 79, 80, 81, 82, 83, 84, 85, 86, 87, 88, 89, 90, 91, 92, 93, 94, 95, 96, 97, 98, 99] (by decide +kernel) (by decide +kernel)
set_option maxRecDepth 20000 in
theorem gX11_judge_X11_all : GoodIn wsX11_judge (wsV RX11 185 RX11 yX11_all wsX11_all) := goodIn_app (goodIn_of _ (by decide +kernel)) ggX11_judge_X11_all
set_option maxRecDepth 20000 in
theorem ggX11_judge_X11_goMonths : GoodIn wsX11_judge wsX11_goMonths := goodIn_r _ [38, 2, 39, 4, 40, 41, 42, 43, 44, 45, 7, 46, 47, 48, 49, 50, 51, 52, 53, 54, 55, 56, 57, 58, 69, 70, 71, 72, 73, 74, 75, 76, 77, 78, 79, 80, 81, 82, 83, 84, 85, 86, 87, 88, 89, 90, 91, 92, 93, 94, 95, 96, 97, 98, 99] (by decide +kernel) (by decide +kernel)
set_option maxRecDepth 20000 in
theorem gX11_judge_X11_goMonths : GoodIn wsX11_judge (wsV RX11 173 RX11 yX11_goMonths wsX11_goMonths) := goodIn_app (goodIn_of _ (by decide +kernel)) ggX11_judge_X11_goMonths
set_option maxRecDepth 20000 in
theorem ggX11_judge_X11_lackedIn : GoodIn wsX11_judge wsX11_lackedIn := goodIn_r _ [62, 63, 43, 44, 45, 7, 46, 2, 4, 40, 47, 48, 49, 69, 70, 71, 72, 73, 74, 75, 76, 77, 78, 79, 80, 81, 82, 83, 84, 85, 86, 87, 88, 89, 90, 91, 92, 93, 94, 95, 96, 97, 98, 99] (by decide +kernel) (by decide +kernel)
set_option maxRecDepth 20000 in
theorem gX11_judge_X11_lackedIn : GoodIn wsX11_judge (wsV RX11 179 RX11 yX11_lackedIn wsX11_lackedIn) := goodIn_app (goodIn_of _ (by decide +kernel)) ggX11_judge_X11_lackedIn
set_option maxRecDepth 20000 in
theorem ggX11_judge_X11_spentIn : GoodIn wsX11_judge wsX11_spentIn := goodIn_r _ [67, 2, 42, 68, 69, 70, 71, 72, 73, 74, 75, 76, 77, 78, 79, 80, 81, 82, 83, 84, 85, 86, 87, 88, 89, 90, 91, 92, 93, 94, 95, 96, 97, 98, 99] (by decide +kernel) (by decide +kernel)
set_option maxRecDepth 20000 in
theorem gX11_judge_X11_spentIn : GoodIn wsX11_judge (wsV RX11 182 RX11 yX11_spentIn wsX11_spentIn) := goodIn_app (goodIn_of _ (by decide +kernel)) ggX11_judge_X11_spentIn
theorem dX11_judge_0 : decode cX11_judge 0 = .ok (.iload_n 1, 1) := by decide +kernel
theorem dX11_judge_1 : decode cX11_judge 1 = .ok (.invokestatic 125, 3) := by decide +kernel
theorem dX11_judge_4 : decode cX11_judge 4 = .ok (.ifCond .eq 9, 3) := by decide +kernel
theorem dX11_judge_7 : decode cX11_judge 7 = .ok (.aload_n 0, 1) := by decide +kernel
theorem dX11_judge_8 : decode cX11_judge 8 = .ok (.iconst (-1), 1) := by decide +kernel
theorem dX11_judge_9 : decode cX11_judge 9 = .ok (.invokevirtual 129, 3) := by decide +kernel
theorem dX11_judge_12 : decode cX11_judge 12 = .ok (.ireturn, 1) := by decide +kernel
theorem dX11_judge_13 : decode cX11_judge 13 = .ok (.iload_n 2, 1) := by decide +kernel
theorem dX11_judge_14 : decode cX11_judge 14 = .ok (.i2l, 1) := by decide +kernel
theorem dX11_judge_15 : decode cX11_judge 15 = .ok (.lconst 0, 1) := by decide +kernel
theorem dX11_judge_16 : decode cX11_judge 16 = .ok (.ldc2_w 132, 3) := by decide +kernel
theorem dX11_judge_19 : decode cX11_judge 19 = .ok (.invokestatic 93, 3) := by decide +kernel
theorem dX11_judge_22 : decode cX11_judge 22 = .ok (.ifCond .ne 10, 3) := by decide +kernel
theorem dX11_judge_25 : decode cX11_judge 25 = .ok (.aload_n 0, 1) := by decide +kernel
theorem dX11_judge_26 : decode cX11_judge 26 = .ok (.bipush (-2), 2) := by decide +kernel
theorem dX11_judge_28 : decode cX11_judge 28 = .ok (.invokevirtual 129, 3) := by decide +kernel
theorem dX11_judge_31 : decode cX11_judge 31 = .ok (.ireturn, 1) := by decide +kernel
theorem dX11_judge_32 : decode cX11_judge 32 = .ok (.aload_n 0, 1) := by decide +kernel
theorem dX11_judge_33 : decode cX11_judge 33 = .ok (.getfield 90, 3) := by decide +kernel
theorem dX11_judge_36 : decode cX11_judge 36 = .ok (.ifCond .ne 10, 3) := by decide +kernel
theorem dX11_judge_39 : decode cX11_judge 39 = .ok (.aload_n 0, 1) := by decide +kernel
theorem dX11_judge_40 : decode cX11_judge 40 = .ok (.bipush (-3), 2) := by decide +kernel
theorem dX11_judge_42 : decode cX11_judge 42 = .ok (.invokevirtual 129, 3) := by decide +kernel
theorem dX11_judge_45 : decode cX11_judge 45 = .ok (.ireturn, 1) := by decide +kernel
theorem dX11_judge_46 : decode cX11_judge 46 = .ok (.aload_n 0, 1) := by decide +kernel
theorem dX11_judge_47 : decode cX11_judge 47 = .ok (.iload_n 1, 1) := by decide +kernel
theorem dX11_judge_48 : decode cX11_judge 48 = .ok (.iload_n 2, 1) := by decide +kernel
theorem dX11_judge_49 : decode cX11_judge 49 = .ok (.iload_n 3, 1) := by decide +kernel
theorem dX11_judge_50 : decode cX11_judge 50 = .ok (.iload 4, 2) := by decide +kernel
theorem dX11_judge_52 : decode cX11_judge 52 = .ok (.i2l, 1) := by decide +kernel
theorem dX11_judge_53 : decode cX11_judge 53 = .ok (.invokevirtual 134, 3) := by decide +kernel
theorem dX11_judge_56 : decode cX11_judge 56 = .ok (.istore 5, 2) := by decide +kernel
theorem dX11_judge_58 : decode cX11_judge 58 = .ok (.iload 5, 2) := by decide +kernel
theorem dX11_judge_60 : decode cX11_judge 60 = .ok (.ifCond .ge 6, 3) := by decide +kernel
theorem dX11_judge_63 : decode cX11_judge 63 = .ok (.iload 5, 2) := by decide +kernel
theorem dX11_judge_65 : decode cX11_judge 65 = .ok (.ireturn, 1) := by decide +kernel
theorem dX11_judge_66 : decode cX11_judge 66 = .ok (.iload 4, 2) := by decide +kernel
theorem dX11_judge_68 : decode cX11_judge 68 = .ok (.bipush 12, 2) := by decide +kernel
theorem dX11_judge_70 : decode cX11_judge 70 = .ok (.if_icmp .le 10, 3) := by decide +kernel
theorem dX11_judge_73 : decode cX11_judge 73 = .ok (.aload_n 0, 1) := by decide +kernel
theorem dX11_judge_74 : decode cX11_judge 74 = .ok (.bipush (-2), 2) := by decide +kernel
theorem dX11_judge_76 : decode cX11_judge 76 = .ok (.invokevirtual 129, 3) := by decide +kernel
theorem dX11_judge_79 : decode cX11_judge 79 = .ok (.ireturn, 1) := by decide +kernel
theorem dX11_judge_80 : decode cX11_judge 80 = .ok (.iconst 0, 1) := by decide +kernel
theorem dX11_judge_81 : decode cX11_judge 81 = .ok (.istore 6, 2) := by decide +kernel
theorem dX11_judge_83 : decode cX11_judge 83 = .ok (.iload 6, 2) := by decide +kernel
theorem dX11_judge_85 : decode cX11_judge 85 = .ok (.iload 4, 2) := by decide +kernel
theorem dX11_judge_87 : decode cX11_judge 87 = .ok (.if_icmp .ge 43, 3) := by decide +kernel
theorem dX11_judge_90 : decode cX11_judge 90 = .ok (.aload_n 0, 1) := by decide +kernel
theorem dX11_judge_91 : decode cX11_judge 91 = .ok (.getfield 74, 3) := by decide +kernel
theorem dX11_judge_94 : decode cX11_judge 94 = .ok (.bipush 60, 2) := by decide +kernel
theorem dX11_judge_96 : decode cX11_judge 96 = .ok (.iload_n 1, 1) := by decide +kernel
theorem dX11_judge_97 : decode cX11_judge 97 = .ok (.imul, 1) := by decide +kernel
theorem dX11_judge_98 : decode cX11_judge 98 = .ok (.iload_n 3, 1) := by decide +kernel
theorem dX11_judge_99 : decode cX11_judge 99 = .ok (.iadd, 1) := by decide +kernel
theorem dX11_judge_100 : decode cX11_judge 100 = .ok (.iload 6, 2) := by decide +kernel
theorem dX11_judge_102 : decode cX11_judge 102 = .ok (.iadd, 1) := by decide +kernel
theorem dX11_judge_103 : decode cX11_judge 103 = .ok (.iaload, 1) := by decide +kernel
theorem dX11_judge_104 : decode cX11_judge 104 = .ok (.i2l, 1) := by decide +kernel
theorem dX11_judge_105 : decode cX11_judge 105 = .ok (.lconst 0, 1) := by decide +kernel
theorem dX11_judge_106 : decode cX11_judge 106 = .ok (.aload_n 0, 1) := by decide +kernel
theorem dX11_judge_107 : decode cX11_judge 107 = .ok (.invokevirtual 185, 3) := by decide +kernel
theorem dX11_judge_110 : decode cX11_judge 110 = .ok (.i2l, 1) := by decide +kernel
theorem dX11_judge_111 : decode cX11_judge 111 = .ok (.invokestatic 93, 3) := by decide +kernel
theorem dX11_judge_114 : decode cX11_judge 114 = .ok (.ifCond .ne 10, 3) := by decide +kernel
theorem dX11_judge_117 : decode cX11_judge 117 = .ok (.aload_n 0, 1) := by decide +kernel
theorem dX11_judge_118 : decode cX11_judge 118 = .ok (.bipush (-2), 2) := by decide +kernel
theorem dX11_judge_120 : decode cX11_judge 120 = .ok (.invokevirtual 129, 3) := by decide +kernel
theorem dX11_judge_123 : decode cX11_judge 123 = .ok (.ireturn, 1) := by decide +kernel
theorem dX11_judge_124 : decode cX11_judge 124 = .ok (.iinc 6 1, 3) := by decide +kernel
theorem dX11_judge_127 : decode cX11_judge 127 = .ok (.goto (-44), 3) := by decide +kernel
theorem dX11_judge_130 : decode cX11_judge 130 = .ok (.iconst 0, 1) := by decide +kernel
theorem dX11_judge_131 : decode cX11_judge 131 = .ok (.istore 6, 2) := by decide +kernel
theorem dX11_judge_133 : decode cX11_judge 133 = .ok (.iload 6, 2) := by decide +kernel
theorem dX11_judge_135 : decode cX11_judge 135 = .ok (.bipush 12, 2) := by decide +kernel
theorem dX11_judge_137 : decode cX11_judge 137 = .ok (.if_icmp .ge 41, 3) := by decide +kernel
theorem dX11_judge_140 : decode cX11_judge 140 = .ok (.aload_n 0, 1) := by decide +kernel
theorem dX11_judge_141 : decode cX11_judge 141 = .ok (.getfield 40, 3) := by decide +kernel
theorem dX11_judge_144 : decode cX11_judge 144 = .ok (.iload 6, 2) := by decide +kernel
theorem dX11_judge_146 : decode cX11_judge 146 = .ok (.iload 6, 2) := by decide +kernel
theorem dX11_judge_148 : decode cX11_judge 148 = .ok (.iload 4, 2) := by decide +kernel
theorem dX11_judge_150 : decode cX11_judge 150 = .ok (.if_icmp .ge 20, 3) := by decide +kernel
theorem dX11_judge_153 : decode cX11_judge 153 = .ok (.aload_n 0, 1) := by decide +kernel
theorem dX11_judge_154 : decode cX11_judge 154 = .ok (.getfield 74, 3) := by decide +kernel
theorem dX11_judge_157 : decode cX11_judge 157 = .ok (.bipush 60, 2) := by decide +kernel
theorem dX11_judge_159 : decode cX11_judge 159 = .ok (.iload_n 1, 1) := by decide +kernel
theorem dX11_judge_160 : decode cX11_judge 160 = .ok (.imul, 1) := by decide +kernel
theorem dX11_judge_161 : decode cX11_judge 161 = .ok (.iload_n 3, 1) := by decide +kernel
theorem dX11_judge_162 : decode cX11_judge 162 = .ok (.iadd, 1) := by decide +kernel
theorem dX11_judge_163 : decode cX11_judge 163 = .ok (.iload 6, 2) := by decide +kernel
theorem dX11_judge_165 : decode cX11_judge 165 = .ok (.iadd, 1) := by decide +kernel
theorem dX11_judge_166 : decode cX11_judge 166 = .ok (.iaload, 1) := by decide +kernel
theorem dX11_judge_167 : decode cX11_judge 167 = .ok (.goto 4, 3) := by decide +kernel
theorem dX11_judge_170 : decode cX11_judge 170 = .ok (.iconst 0, 1) := by decide +kernel
theorem dX11_judge_171 : decode cX11_judge 171 = .ok (.iastore, 1) := by decide +kernel
theorem dX11_judge_172 : decode cX11_judge 172 = .ok (.iinc 6 1, 3) := by decide +kernel
theorem dX11_judge_175 : decode cX11_judge 175 = .ok (.goto (-42), 3) := by decide +kernel
theorem dX11_judge_178 : decode cX11_judge 178 = .ok (.aload_n 0, 1) := by decide +kernel
theorem dX11_judge_179 : decode cX11_judge 179 = .ok (.invokevirtual 173, 3) := by decide +kernel
theorem dX11_judge_182 : decode cX11_judge 182 = .ok (.iconst 0, 1) := by decide +kernel
theorem dX11_judge_183 : decode cX11_judge 183 = .ok (.istore 6, 2) := by decide +kernel
theorem dX11_judge_185 : decode cX11_judge 185 = .ok (.iload 6, 2) := by decide +kernel
theorem dX11_judge_187 : decode cX11_judge 187 = .ok (.iload 4, 2) := by decide +kernel
theorem dX11_judge_189 : decode cX11_judge 189 = .ok (.if_icmp .ge 34, 3) := by decide +kernel
theorem dX11_judge_192 : decode cX11_judge 192 = .ok (.aload_n 0, 1) := by decide +kernel
theorem dX11_judge_193 : decode cX11_judge 193 = .ok (.iload 6, 2) := by decide +kernel
theorem dX11_judge_195 : decode cX11_judge 195 = .ok (.invokevirtual 179, 3) := by decide +kernel
theorem dX11_judge_198 : decode cX11_judge 198 = .ok (.ifCond .gt 12, 3) := by decide +kernel
theorem dX11_judge_201 : decode cX11_judge 201 = .ok (.aload_n 0, 1) := by decide +kernel
theorem dX11_judge_202 : decode cX11_judge 202 = .ok (.iload 6, 2) := by decide +kernel
theorem dX11_judge_204 : decode cX11_judge 204 = .ok (.invokevirtual 182, 3) := by decide +kernel
theorem dX11_judge_207 : decode cX11_judge 207 = .ok (.ifCond .lt 10, 3) := by decide +kernel
theorem dX11_judge_210 : decode cX11_judge 210 = .ok (.aload_n 0, 1) := by decide +kernel
theorem dX11_judge_211 : decode cX11_judge 211 = .ok (.iload 6, 2) := by decide +kernel
theorem dX11_judge_213 : decode cX11_judge 213 = .ok (.invokevirtual 129, 3) := by decide +kernel
theorem dX11_judge_216 : decode cX11_judge 216 = .ok (.ireturn, 1) := by decide +kernel
theorem dX11_judge_217 : decode cX11_judge 217 = .ok (.iinc 6 1, 3) := by decide +kernel
theorem dX11_judge_220 : decode cX11_judge 220 = .ok (.goto (-35), 3) := by decide +kernel
theorem dX11_judge_223 : decode cX11_judge 223 = .ok (.aload_n 0, 1) := by decide +kernel
theorem dX11_judge_224 : decode cX11_judge 224 = .ok (.bipush (-9), 2) := by decide +kernel
theorem dX11_judge_226 : decode cX11_judge 226 = .ok (.invokevirtual 129, 3) := by decide +kernel
theorem dX11_judge_229 : decode cX11_judge 229 = .ok (.ireturn, 1) := by decide +kernel
set_option maxRecDepth 20000 in
theorem ggX11_mayTrade_X11_isIn : GoodIn wsX11_mayTrade wsX11_isIn := goodIn_r _ [6] (by decide +kernel) (by decide +kernel)
set_option maxRecDepth 20000 in
theorem gX11_mayTrade_X11_isIn : GoodIn wsX11_mayTrade (va_wsS RX11 159 yX11_isIn wsX11_isIn) := goodIn_app (goodIn_of _ (by decide +kernel)) ggX11_mayTrade_X11_isIn
set_option maxRecDepth 20000 in
theorem ggX11_mayTrade_X11_goMonths : GoodIn wsX11_mayTrade wsX11_goMonths := goodIn_r _ [10, 11, 12, 2, 13, 14, 15, 16, 17, 18, 5, 19, 3, 4, 6, 20, 21, 22, 23, 24, 25, 26, 27, 28, 39, 40, 41, 42, 43, 44, 45, 46, 47, 48, 49, 50, 51, 52, 53, 54, 55, 56, 57, 58, 59, 60, 61, 62, 63, 64, 65, 66, 67, 68, 69] (by decide +kernel) (by decide +kernel)
set_option maxRecDepth 20000 in
theorem gX11_mayTrade_X11_goMonths : GoodIn wsX11_mayTrade (wsV RX11 173 RX11 yX11_goMonths wsX11_goMonths) := goodIn_app (goodIn_of _ (by decide +kernel)) ggX11_mayTrade_X11_goMonths
set_option maxRecDepth 20000 in
theorem ggX11_mayTrade_X11_lackedIn : GoodIn wsX11_mayTrade wsX11_lackedIn := goodIn_r _ [32, 33, 16, 17, 18, 5, 19, 11, 2, 13, 3, 4, 6, 39, 40, 41, 42, 43, 44, 45, 46, 47, 48, 49, 50, 51, 52, 53, 54, 55, 56, 57, 58, 59, 60, 61, 62, 63, 64, 65, 66, 67, 68, 69] (by decide +kernel) (by decide +kernel)
set_option maxRecDepth 20000 in
theorem gX11_mayTrade_X11_lackedIn : GoodIn wsX11_mayTrade (wsV RX11 179 RX11 yX11_lackedIn wsX11_lackedIn) := goodIn_app (goodIn_of _ (by decide +kernel)) ggX11_mayTrade_X11_lackedIn
set_option maxRecDepth 20000 in
theorem ggX11_mayTrade_X11_spentIn : GoodIn wsX11_mayTrade wsX11_spentIn := goodIn_r _ [37, 11, 15, 38, 39, 40, 41, 42, 43, 44, 45, 46, 47, 48, 49, 50, 51, 52, 53, 54, 55, 56, 57, 58, 59, 60, 61, 62, 63, 64, 65, 66, 67, 68, 69] (by decide +kernel) (by decide +kernel)
set_option maxRecDepth 20000 in
theorem gX11_mayTrade_X11_spentIn : GoodIn wsX11_mayTrade (wsV RX11 182 RX11 yX11_spentIn wsX11_spentIn) := goodIn_app (goodIn_of _ (by decide +kernel)) ggX11_mayTrade_X11_spentIn
theorem dX11_mayTrade_0 : decode cX11_mayTrade 0 = .ok (.iconst 0, 1) := by decide +kernel
theorem dX11_mayTrade_1 : decode cX11_mayTrade 1 = .ok (.istore_n 3, 1) := by decide +kernel
theorem dX11_mayTrade_2 : decode cX11_mayTrade 2 = .ok (.iload_n 3, 1) := by decide +kernel
theorem dX11_mayTrade_3 : decode cX11_mayTrade 3 = .ok (.bipush 12, 2) := by decide +kernel
theorem dX11_mayTrade_5 : decode cX11_mayTrade 5 = .ok (.if_icmp .ge 77, 3) := by decide +kernel
theorem dX11_mayTrade_8 : decode cX11_mayTrade 8 = .ok (.iconst 1, 1) := by decide +kernel
theorem dX11_mayTrade_9 : decode cX11_mayTrade 9 = .ok (.iload_n 1, 1) := by decide +kernel
theorem dX11_mayTrade_10 : decode cX11_mayTrade 10 = .ok (.ishl, 1) := by decide +kernel
theorem dX11_mayTrade_11 : decode cX11_mayTrade 11 = .ok (.iconst 1, 1) := by decide +kernel
theorem dX11_mayTrade_12 : decode cX11_mayTrade 12 = .ok (.iload_n 2, 1) := by decide +kernel
theorem dX11_mayTrade_13 : decode cX11_mayTrade 13 = .ok (.ishl, 1) := by decide +kernel
theorem dX11_mayTrade_14 : decode cX11_mayTrade 14 = .ok (.ior, 1) := by decide +kernel
theorem dX11_mayTrade_15 : decode cX11_mayTrade 15 = .ok (.istore 4, 2) := by decide +kernel
theorem dX11_mayTrade_17 : decode cX11_mayTrade 17 = .ok (.aload_n 0, 1) := by decide +kernel
theorem dX11_mayTrade_18 : decode cX11_mayTrade 18 = .ok (.getfield 19, 3) := by decide +kernel
theorem dX11_mayTrade_21 : decode cX11_mayTrade 21 = .ok (.iload_n 3, 1) := by decide +kernel
theorem dX11_mayTrade_22 : decode cX11_mayTrade 22 = .ok (.iaload, 1) := by decide +kernel
theorem dX11_mayTrade_23 : decode cX11_mayTrade 23 = .ok (.iload_n 1, 1) := by decide +kernel
theorem dX11_mayTrade_24 : decode cX11_mayTrade 24 = .ok (.invokestatic 159, 3) := by decide +kernel
theorem dX11_mayTrade_27 : decode cX11_mayTrade 27 = .ok (.aload_n 0, 1) := by decide +kernel
theorem dX11_mayTrade_28 : decode cX11_mayTrade 28 = .ok (.getfield 19, 3) := by decide +kernel
theorem dX11_mayTrade_31 : decode cX11_mayTrade 31 = .ok (.iload_n 3, 1) := by decide +kernel
theorem dX11_mayTrade_32 : decode cX11_mayTrade 32 = .ok (.iaload, 1) := by decide +kernel
theorem dX11_mayTrade_33 : decode cX11_mayTrade 33 = .ok (.iload_n 2, 1) := by decide +kernel
theorem dX11_mayTrade_34 : decode cX11_mayTrade 34 = .ok (.invokestatic 159, 3) := by decide +kernel
theorem dX11_mayTrade_37 : decode cX11_mayTrade 37 = .ok (.if_icmp .eq 7, 3) := by decide +kernel
theorem dX11_mayTrade_40 : decode cX11_mayTrade 40 = .ok (.iconst 1, 1) := by decide +kernel
theorem dX11_mayTrade_41 : decode cX11_mayTrade 41 = .ok (.goto 4, 3) := by decide +kernel
theorem dX11_mayTrade_44 : decode cX11_mayTrade 44 = .ok (.iconst 0, 1) := by decide +kernel
theorem dX11_mayTrade_45 : decode cX11_mayTrade 45 = .ok (.istore 5, 2) := by decide +kernel
theorem dX11_mayTrade_47 : decode cX11_mayTrade 47 = .ok (.aload_n 0, 1) := by decide +kernel
theorem dX11_mayTrade_48 : decode cX11_mayTrade 48 = .ok (.getfield 40, 3) := by decide +kernel
theorem dX11_mayTrade_51 : decode cX11_mayTrade 51 = .ok (.iload_n 3, 1) := by decide +kernel
theorem dX11_mayTrade_52 : decode cX11_mayTrade 52 = .ok (.iload 5, 2) := by decide +kernel
theorem dX11_mayTrade_54 : decode cX11_mayTrade 54 = .ok (.ifCond .eq 15, 3) := by decide +kernel
theorem dX11_mayTrade_57 : decode cX11_mayTrade 57 = .ok (.aload_n 0, 1) := by decide +kernel
theorem dX11_mayTrade_58 : decode cX11_mayTrade 58 = .ok (.getfield 19, 3) := by decide +kernel
theorem dX11_mayTrade_61 : decode cX11_mayTrade 61 = .ok (.iload_n 3, 1) := by decide +kernel
theorem dX11_mayTrade_62 : decode cX11_mayTrade 62 = .ok (.iaload, 1) := by decide +kernel
theorem dX11_mayTrade_63 : decode cX11_mayTrade 63 = .ok (.iload 4, 2) := by decide +kernel
theorem dX11_mayTrade_65 : decode cX11_mayTrade 65 = .ok (.ixor, 1) := by decide +kernel
theorem dX11_mayTrade_66 : decode cX11_mayTrade 66 = .ok (.goto 9, 3) := by decide +kernel
theorem dX11_mayTrade_69 : decode cX11_mayTrade 69 = .ok (.aload_n 0, 1) := by decide +kernel
theorem dX11_mayTrade_70 : decode cX11_mayTrade 70 = .ok (.getfield 19, 3) := by decide +kernel
theorem dX11_mayTrade_73 : decode cX11_mayTrade 73 = .ok (.iload_n 3, 1) := by decide +kernel
theorem dX11_mayTrade_74 : decode cX11_mayTrade 74 = .ok (.iaload, 1) := by decide +kernel
theorem dX11_mayTrade_75 : decode cX11_mayTrade 75 = .ok (.iastore, 1) := by decide +kernel
theorem dX11_mayTrade_76 : decode cX11_mayTrade 76 = .ok (.iinc 3 1, 3) := by decide +kernel
theorem dX11_mayTrade_79 : decode cX11_mayTrade 79 = .ok (.goto (-77), 3) := by decide +kernel
theorem dX11_mayTrade_82 : decode cX11_mayTrade 82 = .ok (.aload_n 0, 1) := by decide +kernel
theorem dX11_mayTrade_83 : decode cX11_mayTrade 83 = .ok (.invokevirtual 173, 3) := by decide +kernel
theorem dX11_mayTrade_86 : decode cX11_mayTrade 86 = .ok (.iconst 1, 1) := by decide +kernel
theorem dX11_mayTrade_87 : decode cX11_mayTrade 87 = .ok (.istore_n 3, 1) := by decide +kernel
theorem dX11_mayTrade_88 : decode cX11_mayTrade 88 = .ok (.iconst 0, 1) := by decide +kernel
theorem dX11_mayTrade_89 : decode cX11_mayTrade 89 = .ok (.istore 4, 2) := by decide +kernel
theorem dX11_mayTrade_91 : decode cX11_mayTrade 91 = .ok (.iload 4, 2) := by decide +kernel
theorem dX11_mayTrade_93 : decode cX11_mayTrade 93 = .ok (.bipush 12, 2) := by decide +kernel
theorem dX11_mayTrade_95 : decode cX11_mayTrade 95 = .ok (.if_icmp .ge 37, 3) := by decide +kernel
theorem dX11_mayTrade_98 : decode cX11_mayTrade 98 = .ok (.iload_n 3, 1) := by decide +kernel
theorem dX11_mayTrade_99 : decode cX11_mayTrade 99 = .ok (.ifCond .eq 25, 3) := by decide +kernel
theorem dX11_mayTrade_102 : decode cX11_mayTrade 102 = .ok (.aload_n 0, 1) := by decide +kernel
theorem dX11_mayTrade_103 : decode cX11_mayTrade 103 = .ok (.iload 4, 2) := by decide +kernel
theorem dX11_mayTrade_105 : decode cX11_mayTrade 105 = .ok (.invokevirtual 179, 3) := by decide +kernel
theorem dX11_mayTrade_108 : decode cX11_mayTrade 108 = .ok (.ifCond .ne 16, 3) := by decide +kernel
theorem dX11_mayTrade_111 : decode cX11_mayTrade 111 = .ok (.aload_n 0, 1) := by decide +kernel
theorem dX11_mayTrade_112 : decode cX11_mayTrade 112 = .ok (.iload 4, 2) := by decide +kernel
theorem dX11_mayTrade_114 : decode cX11_mayTrade 114 = .ok (.invokevirtual 182, 3) := by decide +kernel
theorem dX11_mayTrade_117 : decode cX11_mayTrade 117 = .ok (.ifCond .ge 7, 3) := by decide +kernel
theorem dX11_mayTrade_120 : decode cX11_mayTrade 120 = .ok (.iconst 1, 1) := by decide +kernel
theorem dX11_mayTrade_121 : decode cX11_mayTrade 121 = .ok (.goto 4, 3) := by decide +kernel
theorem dX11_mayTrade_124 : decode cX11_mayTrade 124 = .ok (.iconst 0, 1) := by decide +kernel
theorem dX11_mayTrade_125 : decode cX11_mayTrade 125 = .ok (.istore_n 3, 1) := by decide +kernel
theorem dX11_mayTrade_126 : decode cX11_mayTrade 126 = .ok (.iinc 4 1, 3) := by decide +kernel
theorem dX11_mayTrade_129 : decode cX11_mayTrade 129 = .ok (.goto (-38), 3) := by decide +kernel
theorem dX11_mayTrade_132 : decode cX11_mayTrade 132 = .ok (.iload_n 3, 1) := by decide +kernel
theorem dX11_mayTrade_133 : decode cX11_mayTrade 133 = .ok (.ireturn, 1) := by decide +kernel
set_option maxRecDepth 20000 in
theorem ggX11_trades_X11_mayTrade : GoodIn wsX11_trades wsX11_mayTrade := goodIn_r _ [6, 7, 8, 9, 10, 5, 11, 12, 13, 14, 15, 1, 16, 17, 18, 19, 20, 21, 22, 23, 24, 25, 26, 27, 28, 29, 30, 31, 32, 33, 34, 35, 36, 37, 38, 39, 40, 41, 42, 43, 44, 45, 46, 47, 48, 49, 50, 51, 52, 53, 54, 55, 56, 57, 58, 59, 60, 61, 62, 63, 64, 65, 66, 67, 68, 69, 70, 71, 72, 73] (by decide +kernel) (by decide +kernel)
set_option maxRecDepth 20000 in
theorem gX11_trades_X11_mayTrade : GoodIn wsX11_trades (wsV RX11 201 RX11 yX11_mayTrade wsX11_mayTrade) := goodIn_app (goodIn_of _ (by decide +kernel)) ggX11_trades_X11_mayTrade
theorem dX11_trades_0 : decode cX11_trades 0 = .ok (.iload_n 1, 1) := by decide +kernel
theorem dX11_trades_1 : decode cX11_trades 1 = .ok (.iconst (-1), 1) := by decide +kernel
theorem dX11_trades_2 : decode cX11_trades 2 = .ok (.if_icmp .ge 5, 3) := by decide +kernel
theorem dX11_trades_5 : decode cX11_trades 5 = .ok (.iconst (-1), 1) := by decide +kernel
theorem dX11_trades_6 : decode cX11_trades 6 = .ok (.ireturn, 1) := by decide +kernel
theorem dX11_trades_7 : decode cX11_trades 7 = .ok (.aload_n 0, 1) := by decide +kernel
theorem dX11_trades_8 : decode cX11_trades 8 = .ok (.getfield 90, 3) := by decide +kernel
theorem dX11_trades_11 : decode cX11_trades 11 = .ok (.ifCond .ne 6, 3) := by decide +kernel
theorem dX11_trades_14 : decode cX11_trades 14 = .ok (.bipush (-3), 2) := by decide +kernel
theorem dX11_trades_16 : decode cX11_trades 16 = .ok (.ireturn, 1) := by decide +kernel
theorem dX11_trades_17 : decode cX11_trades 17 = .ok (.iconst 0, 1) := by decide +kernel
theorem dX11_trades_18 : decode cX11_trades 18 = .ok (.istore_n 2, 1) := by decide +kernel
theorem dX11_trades_19 : decode cX11_trades 19 = .ok (.iconst 0, 1) := by decide +kernel
theorem dX11_trades_20 : decode cX11_trades 20 = .ok (.istore_n 3, 1) := by decide +kernel
theorem dX11_trades_21 : decode cX11_trades 21 = .ok (.iload_n 3, 1) := by decide +kernel
theorem dX11_trades_22 : decode cX11_trades 22 = .ok (.aload_n 0, 1) := by decide +kernel
theorem dX11_trades_23 : decode cX11_trades 23 = .ok (.getfield 90, 3) := by decide +kernel
theorem dX11_trades_26 : decode cX11_trades 26 = .ok (.if_icmp .ge 55, 3) := by decide +kernel
theorem dX11_trades_29 : decode cX11_trades 29 = .ok (.iload_n 3, 1) := by decide +kernel
theorem dX11_trades_30 : decode cX11_trades 30 = .ok (.iconst 1, 1) := by decide +kernel
theorem dX11_trades_31 : decode cX11_trades 31 = .ok (.iadd, 1) := by decide +kernel
theorem dX11_trades_32 : decode cX11_trades 32 = .ok (.istore 4, 2) := by decide +kernel
theorem dX11_trades_34 : decode cX11_trades 34 = .ok (.iload 4, 2) := by decide +kernel
theorem dX11_trades_36 : decode cX11_trades 36 = .ok (.aload_n 0, 1) := by decide +kernel
theorem dX11_trades_37 : decode cX11_trades 37 = .ok (.getfield 90, 3) := by decide +kernel
theorem dX11_trades_40 : decode cX11_trades 40 = .ok (.if_icmp .ge 35, 3) := by decide +kernel
theorem dX11_trades_43 : decode cX11_trades 43 = .ok (.aload_n 0, 1) := by decide +kernel
theorem dX11_trades_44 : decode cX11_trades 44 = .ok (.iload_n 3, 1) := by decide +kernel
theorem dX11_trades_45 : decode cX11_trades 45 = .ok (.iload 4, 2) := by decide +kernel
theorem dX11_trades_47 : decode cX11_trades 47 = .ok (.invokevirtual 201, 3) := by decide +kernel
theorem dX11_trades_50 : decode cX11_trades 50 = .ok (.ifCond .eq 19, 3) := by decide +kernel
theorem dX11_trades_53 : decode cX11_trades 53 = .ok (.iload_n 2, 1) := by decide +kernel
theorem dX11_trades_54 : decode cX11_trades 54 = .ok (.iload_n 1, 1) := by decide +kernel
theorem dX11_trades_55 : decode cX11_trades 55 = .ok (.if_icmp .ne 11, 3) := by decide +kernel
theorem dX11_trades_58 : decode cX11_trades 58 = .ok (.bipush 10, 2) := by decide +kernel
theorem dX11_trades_60 : decode cX11_trades 60 = .ok (.iload_n 3, 1) := by decide +kernel
theorem dX11_trades_61 : decode cX11_trades 61 = .ok (.imul, 1) := by decide +kernel
theorem dX11_trades_62 : decode cX11_trades 62 = .ok (.iload 4, 2) := by decide +kernel
theorem dX11_trades_64 : decode cX11_trades 64 = .ok (.iadd, 1) := by decide +kernel
theorem dX11_trades_65 : decode cX11_trades 65 = .ok (.ireturn, 1) := by decide +kernel
theorem dX11_trades_66 : decode cX11_trades 66 = .ok (.iinc 2 1, 3) := by decide +kernel
theorem dX11_trades_69 : decode cX11_trades 69 = .ok (.iinc 4 1, 3) := by decide +kernel
theorem dX11_trades_72 : decode cX11_trades 72 = .ok (.goto (-38), 3) := by decide +kernel
theorem dX11_trades_75 : decode cX11_trades 75 = .ok (.iinc 3 1, 3) := by decide +kernel
theorem dX11_trades_78 : decode cX11_trades 78 = .ok (.goto (-57), 3) := by decide +kernel
theorem dX11_trades_81 : decode cX11_trades 81 = .ok (.iload_n 1, 1) := by decide +kernel
theorem dX11_trades_82 : decode cX11_trades 82 = .ok (.ifCond .ge 7, 3) := by decide +kernel
theorem dX11_trades_85 : decode cX11_trades 85 = .ok (.iload_n 2, 1) := by decide +kernel
theorem dX11_trades_86 : decode cX11_trades 86 = .ok (.goto 5, 3) := by decide +kernel
theorem dX11_trades_89 : decode cX11_trades 89 = .ok (.bipush (-9), 2) := by decide +kernel
theorem dX11_trades_91 : decode cX11_trades 91 = .ok (.ireturn, 1) := by decide +kernel
set_option maxRecDepth 20000 in
theorem ggX11_leftBy_X11_isIn : GoodIn wsX11_leftBy wsX11_isIn := goodIn_r _ [7] (by decide +kernel) (by decide +kernel)
set_option maxRecDepth 20000 in
theorem gX11_leftBy_X11_isIn : GoodIn wsX11_leftBy (va_wsS RX11 159 yX11_isIn wsX11_isIn) := goodIn_app (goodIn_of _ (by decide +kernel)) ggX11_leftBy_X11_isIn
theorem dX11_leftBy_0 : decode cX11_leftBy 0 = .ok (.iconst 0, 1) := by decide +kernel
theorem dX11_leftBy_1 : decode cX11_leftBy 1 = .ok (.istore_n 2, 1) := by decide +kernel
theorem dX11_leftBy_2 : decode cX11_leftBy 2 = .ok (.iconst 0, 1) := by decide +kernel
theorem dX11_leftBy_3 : decode cX11_leftBy 3 = .ok (.istore_n 3, 1) := by decide +kernel
theorem dX11_leftBy_4 : decode cX11_leftBy 4 = .ok (.iload_n 3, 1) := by decide +kernel
theorem dX11_leftBy_5 : decode cX11_leftBy 5 = .ok (.iload_n 1, 1) := by decide +kernel
theorem dX11_leftBy_6 : decode cX11_leftBy 6 = .ok (.if_icmp .ge 63, 3) := by decide +kernel
theorem dX11_leftBy_9 : decode cX11_leftBy 9 = .ok (.iconst 0, 1) := by decide +kernel
theorem dX11_leftBy_10 : decode cX11_leftBy 10 = .ok (.istore 4, 2) := by decide +kernel
theorem dX11_leftBy_12 : decode cX11_leftBy 12 = .ok (.iload 4, 2) := by decide +kernel
theorem dX11_leftBy_14 : decode cX11_leftBy 14 = .ok (.aload_n 0, 1) := by decide +kernel
theorem dX11_leftBy_15 : decode cX11_leftBy 15 = .ok (.getfield 90, 3) := by decide +kernel
theorem dX11_leftBy_18 : decode cX11_leftBy 18 = .ok (.if_icmp .ge 45, 3) := by decide +kernel
theorem dX11_leftBy_21 : decode cX11_leftBy 21 = .ok (.iload_n 2, 1) := by decide +kernel
theorem dX11_leftBy_22 : decode cX11_leftBy 22 = .ok (.aload_n 0, 1) := by decide +kernel
theorem dX11_leftBy_23 : decode cX11_leftBy 23 = .ok (.getfield 40, 3) := by decide +kernel
theorem dX11_leftBy_26 : decode cX11_leftBy 26 = .ok (.iload_n 3, 1) := by decide +kernel
theorem dX11_leftBy_27 : decode cX11_leftBy 27 = .ok (.iaload, 1) := by decide +kernel
theorem dX11_leftBy_28 : decode cX11_leftBy 28 = .ok (.iload 4, 2) := by decide +kernel
theorem dX11_leftBy_30 : decode cX11_leftBy 30 = .ok (.invokestatic 159, 3) := by decide +kernel
theorem dX11_leftBy_33 : decode cX11_leftBy 33 = .ok (.ifCond .eq 21, 3) := by decide +kernel
theorem dX11_leftBy_36 : decode cX11_leftBy 36 = .ok (.aload_n 0, 1) := by decide +kernel
theorem dX11_leftBy_37 : decode cX11_leftBy 37 = .ok (.getfield 55, 3) := by decide +kernel
theorem dX11_leftBy_40 : decode cX11_leftBy 40 = .ok (.iload 4, 2) := by decide +kernel
theorem dX11_leftBy_42 : decode cX11_leftBy 42 = .ok (.iaload, 1) := by decide +kernel
theorem dX11_leftBy_43 : decode cX11_leftBy 43 = .ok (.iload_n 3, 1) := by decide +kernel
theorem dX11_leftBy_44 : decode cX11_leftBy 44 = .ok (.if_icmp .gt 10, 3) := by decide +kernel
theorem dX11_leftBy_47 : decode cX11_leftBy 47 = .ok (.iconst 1, 1) := by decide +kernel
theorem dX11_leftBy_48 : decode cX11_leftBy 48 = .ok (.iload 4, 2) := by decide +kernel
theorem dX11_leftBy_50 : decode cX11_leftBy 50 = .ok (.ishl, 1) := by decide +kernel
theorem dX11_leftBy_51 : decode cX11_leftBy 51 = .ok (.goto 4, 3) := by decide +kernel
theorem dX11_leftBy_54 : decode cX11_leftBy 54 = .ok (.iconst 0, 1) := by decide +kernel
theorem dX11_leftBy_55 : decode cX11_leftBy 55 = .ok (.ior, 1) := by decide +kernel
theorem dX11_leftBy_56 : decode cX11_leftBy 56 = .ok (.istore_n 2, 1) := by decide +kernel
theorem dX11_leftBy_57 : decode cX11_leftBy 57 = .ok (.iinc 4 1, 3) := by decide +kernel
theorem dX11_leftBy_60 : decode cX11_leftBy 60 = .ok (.goto (-48), 3) := by decide +kernel
theorem dX11_leftBy_63 : decode cX11_leftBy 63 = .ok (.iinc 3 1, 3) := by decide +kernel
theorem dX11_leftBy_66 : decode cX11_leftBy 66 = .ok (.goto (-62), 3) := by decide +kernel
theorem dX11_leftBy_69 : decode cX11_leftBy 69 = .ok (.iload_n 2, 1) := by decide +kernel
theorem dX11_leftBy_70 : decode cX11_leftBy 70 = .ok (.ireturn, 1) := by decide +kernel
theorem dX11_knownBy_0 : decode cX11_knownBy 0 = .ok (.iconst 0, 1) := by decide +kernel
theorem dX11_knownBy_1 : decode cX11_knownBy 1 = .ok (.istore_n 2, 1) := by decide +kernel
theorem dX11_knownBy_2 : decode cX11_knownBy 2 = .ok (.iconst 0, 1) := by decide +kernel
theorem dX11_knownBy_3 : decode cX11_knownBy 3 = .ok (.istore_n 3, 1) := by decide +kernel
theorem dX11_knownBy_4 : decode cX11_knownBy 4 = .ok (.iload_n 3, 1) := by decide +kernel
theorem dX11_knownBy_5 : decode cX11_knownBy 5 = .ok (.aload_n 0, 1) := by decide +kernel
theorem dX11_knownBy_6 : decode cX11_knownBy 6 = .ok (.getfield 90, 3) := by decide +kernel
theorem dX11_knownBy_9 : decode cX11_knownBy 9 = .ok (.if_icmp .ge 29, 3) := by decide +kernel
theorem dX11_knownBy_12 : decode cX11_knownBy 12 = .ok (.iload_n 2, 1) := by decide +kernel
theorem dX11_knownBy_13 : decode cX11_knownBy 13 = .ok (.aload_n 0, 1) := by decide +kernel
theorem dX11_knownBy_14 : decode cX11_knownBy 14 = .ok (.getfield 55, 3) := by decide +kernel
theorem dX11_knownBy_17 : decode cX11_knownBy 17 = .ok (.iload_n 3, 1) := by decide +kernel
theorem dX11_knownBy_18 : decode cX11_knownBy 18 = .ok (.iaload, 1) := by decide +kernel
theorem dX11_knownBy_19 : decode cX11_knownBy 19 = .ok (.iload_n 1, 1) := by decide +kernel
theorem dX11_knownBy_20 : decode cX11_knownBy 20 = .ok (.if_icmp .gt 9, 3) := by decide +kernel
theorem dX11_knownBy_23 : decode cX11_knownBy 23 = .ok (.iconst 1, 1) := by decide +kernel
theorem dX11_knownBy_24 : decode cX11_knownBy 24 = .ok (.iload_n 3, 1) := by decide +kernel
theorem dX11_knownBy_25 : decode cX11_knownBy 25 = .ok (.ishl, 1) := by decide +kernel
theorem dX11_knownBy_26 : decode cX11_knownBy 26 = .ok (.goto 4, 3) := by decide +kernel
theorem dX11_knownBy_29 : decode cX11_knownBy 29 = .ok (.iconst 0, 1) := by decide +kernel
theorem dX11_knownBy_30 : decode cX11_knownBy 30 = .ok (.ior, 1) := by decide +kernel
theorem dX11_knownBy_31 : decode cX11_knownBy 31 = .ok (.istore_n 2, 1) := by decide +kernel
theorem dX11_knownBy_32 : decode cX11_knownBy 32 = .ok (.iinc 3 1, 3) := by decide +kernel
theorem dX11_knownBy_35 : decode cX11_knownBy 35 = .ok (.goto (-31), 3) := by decide +kernel
theorem dX11_knownBy_38 : decode cX11_knownBy 38 = .ok (.iload_n 2, 1) := by decide +kernel
theorem dX11_knownBy_39 : decode cX11_knownBy 39 = .ok (.ireturn, 1) := by decide +kernel
set_option maxRecDepth 20000 in
theorem ggX11_learn_X11_isIn : GoodIn wsX11_learn wsX11_isIn := goodIn_r _ [6] (by decide +kernel) (by decide +kernel)
set_option maxRecDepth 20000 in
theorem gX11_learn_X11_isIn : GoodIn wsX11_learn (va_wsS RX11 159 yX11_isIn wsX11_isIn) := goodIn_app (goodIn_of _ (by decide +kernel)) ggX11_learn_X11_isIn
theorem dX11_learn_0 : decode cX11_learn 0 = .ok (.iconst 0, 1) := by decide +kernel
theorem dX11_learn_1 : decode cX11_learn 1 = .ok (.istore_n 3, 1) := by decide +kernel
theorem dX11_learn_2 : decode cX11_learn 2 = .ok (.iload_n 3, 1) := by decide +kernel
theorem dX11_learn_3 : decode cX11_learn 3 = .ok (.aload_n 0, 1) := by decide +kernel
theorem dX11_learn_4 : decode cX11_learn 4 = .ok (.getfield 90, 3) := by decide +kernel
theorem dX11_learn_7 : decode cX11_learn 7 = .ok (.if_icmp .ge 43, 3) := by decide +kernel
theorem dX11_learn_10 : decode cX11_learn 10 = .ok (.aload_n 0, 1) := by decide +kernel
theorem dX11_learn_11 : decode cX11_learn 11 = .ok (.getfield 55, 3) := by decide +kernel
theorem dX11_learn_14 : decode cX11_learn 14 = .ok (.iload_n 3, 1) := by decide +kernel
theorem dX11_learn_15 : decode cX11_learn 15 = .ok (.iload_n 1, 1) := by decide +kernel
theorem dX11_learn_16 : decode cX11_learn 16 = .ok (.iload_n 3, 1) := by decide +kernel
theorem dX11_learn_17 : decode cX11_learn 17 = .ok (.invokestatic 159, 3) := by decide +kernel
theorem dX11_learn_20 : decode cX11_learn 20 = .ok (.ifCond .eq 17, 3) := by decide +kernel
theorem dX11_learn_23 : decode cX11_learn 23 = .ok (.aload_n 0, 1) := by decide +kernel
theorem dX11_learn_24 : decode cX11_learn 24 = .ok (.getfield 55, 3) := by decide +kernel
theorem dX11_learn_27 : decode cX11_learn 27 = .ok (.iload_n 3, 1) := by decide +kernel
theorem dX11_learn_28 : decode cX11_learn 28 = .ok (.iaload, 1) := by decide +kernel
theorem dX11_learn_29 : decode cX11_learn 29 = .ok (.iload_n 2, 1) := by decide +kernel
theorem dX11_learn_30 : decode cX11_learn 30 = .ok (.if_icmp .le 7, 3) := by decide +kernel
theorem dX11_learn_33 : decode cX11_learn 33 = .ok (.iload_n 2, 1) := by decide +kernel
theorem dX11_learn_34 : decode cX11_learn 34 = .ok (.goto 9, 3) := by decide +kernel
theorem dX11_learn_37 : decode cX11_learn 37 = .ok (.aload_n 0, 1) := by decide +kernel
theorem dX11_learn_38 : decode cX11_learn 38 = .ok (.getfield 55, 3) := by decide +kernel
theorem dX11_learn_41 : decode cX11_learn 41 = .ok (.iload_n 3, 1) := by decide +kernel
theorem dX11_learn_42 : decode cX11_learn 42 = .ok (.iaload, 1) := by decide +kernel
theorem dX11_learn_43 : decode cX11_learn 43 = .ok (.iastore, 1) := by decide +kernel
theorem dX11_learn_44 : decode cX11_learn 44 = .ok (.iinc 3 1, 3) := by decide +kernel
theorem dX11_learn_47 : decode cX11_learn 47 = .ok (.goto (-45), 3) := by decide +kernel
theorem dX11_learn_50 : decode cX11_learn 50 = .ok (.return_, 1) := by decide +kernel
set_option maxRecDepth 20000 in
theorem ggX11_goNews_X11_leftBy : GoodIn wsX11_goNews wsX11_leftBy := goodIn_r _ [10, 11, 5, 1, 12, 13, 9, 14, 23, 24, 25, 26, 27, 28, 29, 30, 31, 32, 33, 34, 35, 36, 37, 38, 39, 40, 41, 42, 43, 44, 45, 46, 47, 48, 49, 50, 51, 52, 53] (by decide +kernel) (by decide +kernel)
set_option maxRecDepth 20000 in
theorem gX11_goNews_X11_leftBy : GoodIn wsX11_goNews (wsV RX11 204 RX11 yX11_leftBy wsX11_leftBy) := goodIn_app (goodIn_of _ (by decide +kernel)) ggX11_goNews_X11_leftBy
set_option maxRecDepth 20000 in
theorem ggX11_goNews_X11_isIn : GoodIn wsX11_goNews wsX11_isIn := goodIn_r _ [14] (by decide +kernel) (by decide +kernel)
set_option maxRecDepth 20000 in
theorem gX11_goNews_X11_isIn : GoodIn wsX11_goNews (va_wsS RX11 159 yX11_isIn wsX11_isIn) := goodIn_app (goodIn_of _ (by decide +kernel)) ggX11_goNews_X11_isIn
set_option maxRecDepth 20000 in
theorem ggX11_goNews_X11_learn : GoodIn wsX11_goNews wsX11_learn := goodIn_r _ [18, 11, 1, 12, 13, 9, 14, 23, 24, 25, 26, 27, 28, 29, 30, 31, 32, 33, 34, 35, 36, 37, 38, 39, 40, 41, 42, 43, 44, 45, 46, 47, 48, 49, 50, 51, 52, 53] (by decide +kernel) (by decide +kernel)
set_option maxRecDepth 20000 in
theorem gX11_goNews_X11_learn : GoodIn wsX11_goNews (wsV RX11 207 RX11 yX11_learn wsX11_learn) := goodIn_app (goodIn_of _ (by decide +kernel)) ggX11_goNews_X11_learn
set_option maxRecDepth 20000 in
theorem ggX11_goNews_X11_knownBy : GoodIn wsX11_goNews wsX11_knownBy := goodIn_r _ [22, 11, 1, 23, 24, 25, 26, 27, 28, 29, 30, 31, 32, 33, 34, 35, 36, 37, 38, 39, 40, 41, 42, 43, 44, 45, 46, 47, 48, 49, 50, 51, 52, 53] (by decide +kernel) (by decide +kernel)
set_option maxRecDepth 20000 in
theorem gX11_goNews_X11_knownBy : GoodIn wsX11_goNews (wsV RX11 211 RX11 yX11_knownBy wsX11_knownBy) := goodIn_app (goodIn_of _ (by decide +kernel)) ggX11_goNews_X11_knownBy
theorem dX11_goNews_0 : decode cX11_goNews 0 = .ok (.iconst 0, 1) := by decide +kernel
theorem dX11_goNews_1 : decode cX11_goNews 1 = .ok (.istore_n 3, 1) := by decide +kernel
theorem dX11_goNews_2 : decode cX11_goNews 2 = .ok (.iload_n 3, 1) := by decide +kernel
theorem dX11_goNews_3 : decode cX11_goNews 3 = .ok (.bipush 6, 2) := by decide +kernel
theorem dX11_goNews_5 : decode cX11_goNews 5 = .ok (.if_icmp .ge 18, 3) := by decide +kernel
theorem dX11_goNews_8 : decode cX11_goNews 8 = .ok (.aload_n 0, 1) := by decide +kernel
theorem dX11_goNews_9 : decode cX11_goNews 9 = .ok (.getfield 55, 3) := by decide +kernel
theorem dX11_goNews_12 : decode cX11_goNews 12 = .ok (.iload_n 3, 1) := by decide +kernel
theorem dX11_goNews_13 : decode cX11_goNews 13 = .ok (.sipush 9999, 3) := by decide +kernel
theorem dX11_goNews_16 : decode cX11_goNews 16 = .ok (.iastore, 1) := by decide +kernel
theorem dX11_goNews_17 : decode cX11_goNews 17 = .ok (.iinc 3 1, 3) := by decide +kernel
theorem dX11_goNews_20 : decode cX11_goNews 20 = .ok (.goto (-18), 3) := by decide +kernel
theorem dX11_goNews_23 : decode cX11_goNews 23 = .ok (.aload_n 0, 1) := by decide +kernel
theorem dX11_goNews_24 : decode cX11_goNews 24 = .ok (.getfield 55, 3) := by decide +kernel
theorem dX11_goNews_27 : decode cX11_goNews 27 = .ok (.iload_n 1, 1) := by decide +kernel
theorem dX11_goNews_28 : decode cX11_goNews 28 = .ok (.iload_n 2, 1) := by decide +kernel
theorem dX11_goNews_29 : decode cX11_goNews 29 = .ok (.iastore, 1) := by decide +kernel
theorem dX11_goNews_30 : decode cX11_goNews 30 = .ok (.iload_n 2, 1) := by decide +kernel
theorem dX11_goNews_31 : decode cX11_goNews 31 = .ok (.istore_n 3, 1) := by decide +kernel
theorem dX11_goNews_32 : decode cX11_goNews 32 = .ok (.iload_n 3, 1) := by decide +kernel
theorem dX11_goNews_33 : decode cX11_goNews 33 = .ok (.bipush 12, 2) := by decide +kernel
theorem dX11_goNews_35 : decode cX11_goNews 35 = .ok (.if_icmp .ge 110, 3) := by decide +kernel
theorem dX11_goNews_38 : decode cX11_goNews 38 = .ok (.aload_n 0, 1) := by decide +kernel
theorem dX11_goNews_39 : decode cX11_goNews 39 = .ok (.iload_n 3, 1) := by decide +kernel
theorem dX11_goNews_40 : decode cX11_goNews 40 = .ok (.invokevirtual 204, 3) := by decide +kernel
theorem dX11_goNews_43 : decode cX11_goNews 43 = .ok (.istore 4, 2) := by decide +kernel
theorem dX11_goNews_45 : decode cX11_goNews 45 = .ok (.iconst 0, 1) := by decide +kernel
theorem dX11_goNews_46 : decode cX11_goNews 46 = .ok (.istore 5, 2) := by decide +kernel
theorem dX11_goNews_48 : decode cX11_goNews 48 = .ok (.iconst 0, 1) := by decide +kernel
theorem dX11_goNews_49 : decode cX11_goNews 49 = .ok (.istore 6, 2) := by decide +kernel
theorem dX11_goNews_51 : decode cX11_goNews 51 = .ok (.iload 6, 2) := by decide +kernel
theorem dX11_goNews_53 : decode cX11_goNews 53 = .ok (.aload_n 0, 1) := by decide +kernel
theorem dX11_goNews_54 : decode cX11_goNews 54 = .ok (.getfield 144, 3) := by decide +kernel
theorem dX11_goNews_57 : decode cX11_goNews 57 = .ok (.if_icmp .ge 42, 3) := by decide +kernel
theorem dX11_goNews_60 : decode cX11_goNews 60 = .ok (.iload 5, 2) := by decide +kernel
theorem dX11_goNews_62 : decode cX11_goNews 62 = .ok (.iload 4, 2) := by decide +kernel
theorem dX11_goNews_64 : decode cX11_goNews 64 = .ok (.aload_n 0, 1) := by decide +kernel
theorem dX11_goNews_65 : decode cX11_goNews 65 = .ok (.getfield 25, 3) := by decide +kernel
theorem dX11_goNews_68 : decode cX11_goNews 68 = .ok (.iload 6, 2) := by decide +kernel
theorem dX11_goNews_70 : decode cX11_goNews 70 = .ok (.iaload, 1) := by decide +kernel
theorem dX11_goNews_71 : decode cX11_goNews 71 = .ok (.invokestatic 159, 3) := by decide +kernel
theorem dX11_goNews_74 : decode cX11_goNews 74 = .ok (.ifCond .eq 15, 3) := by decide +kernel
theorem dX11_goNews_77 : decode cX11_goNews 77 = .ok (.iconst 1, 1) := by decide +kernel
theorem dX11_goNews_78 : decode cX11_goNews 78 = .ok (.aload_n 0, 1) := by decide +kernel
theorem dX11_goNews_79 : decode cX11_goNews 79 = .ok (.getfield 28, 3) := by decide +kernel
theorem dX11_goNews_82 : decode cX11_goNews 82 = .ok (.iload 6, 2) := by decide +kernel
theorem dX11_goNews_84 : decode cX11_goNews 84 = .ok (.iaload, 1) := by decide +kernel
theorem dX11_goNews_85 : decode cX11_goNews 85 = .ok (.ishl, 1) := by decide +kernel
theorem dX11_goNews_86 : decode cX11_goNews 86 = .ok (.goto 4, 3) := by decide +kernel
theorem dX11_goNews_89 : decode cX11_goNews 89 = .ok (.iconst 0, 1) := by decide +kernel
theorem dX11_goNews_90 : decode cX11_goNews 90 = .ok (.ior, 1) := by decide +kernel
theorem dX11_goNews_91 : decode cX11_goNews 91 = .ok (.istore 5, 2) := by decide +kernel
theorem dX11_goNews_93 : decode cX11_goNews 93 = .ok (.iinc 6 1, 3) := by decide +kernel
theorem dX11_goNews_96 : decode cX11_goNews 96 = .ok (.goto (-45), 3) := by decide +kernel
theorem dX11_goNews_99 : decode cX11_goNews 99 = .ok (.aload_n 0, 1) := by decide +kernel
theorem dX11_goNews_100 : decode cX11_goNews 100 = .ok (.iload 5, 2) := by decide +kernel
theorem dX11_goNews_102 : decode cX11_goNews 102 = .ok (.aload_n 0, 1) := by decide +kernel
theorem dX11_goNews_103 : decode cX11_goNews 103 = .ok (.getfield 40, 3) := by decide +kernel
theorem dX11_goNews_106 : decode cX11_goNews 106 = .ok (.iload_n 3, 1) := by decide +kernel
theorem dX11_goNews_107 : decode cX11_goNews 107 = .ok (.iaload, 1) := by decide +kernel
theorem dX11_goNews_108 : decode cX11_goNews 108 = .ok (.iand, 1) := by decide +kernel
theorem dX11_goNews_109 : decode cX11_goNews 109 = .ok (.iload_n 3, 1) := by decide +kernel
theorem dX11_goNews_110 : decode cX11_goNews 110 = .ok (.invokevirtual 207, 3) := by decide +kernel
theorem dX11_goNews_113 : decode cX11_goNews 113 = .ok (.aload_n 0, 1) := by decide +kernel
theorem dX11_goNews_114 : decode cX11_goNews 114 = .ok (.iload_n 3, 1) := by decide +kernel
theorem dX11_goNews_115 : decode cX11_goNews 115 = .ok (.invokevirtual 211, 3) := by decide +kernel
theorem dX11_goNews_118 : decode cX11_goNews 118 = .ok (.aload_n 0, 1) := by decide +kernel
theorem dX11_goNews_119 : decode cX11_goNews 119 = .ok (.getfield 40, 3) := by decide +kernel
theorem dX11_goNews_122 : decode cX11_goNews 122 = .ok (.iload_n 3, 1) := by decide +kernel
theorem dX11_goNews_123 : decode cX11_goNews 123 = .ok (.iaload, 1) := by decide +kernel
theorem dX11_goNews_124 : decode cX11_goNews 124 = .ok (.iand, 1) := by decide +kernel
theorem dX11_goNews_125 : decode cX11_goNews 125 = .ok (.ifCond .eq 14, 3) := by decide +kernel
theorem dX11_goNews_128 : decode cX11_goNews 128 = .ok (.aload_n 0, 1) := by decide +kernel
theorem dX11_goNews_129 : decode cX11_goNews 129 = .ok (.aload_n 0, 1) := by decide +kernel
theorem dX11_goNews_130 : decode cX11_goNews 130 = .ok (.getfield 40, 3) := by decide +kernel
theorem dX11_goNews_133 : decode cX11_goNews 133 = .ok (.iload_n 3, 1) := by decide +kernel
theorem dX11_goNews_134 : decode cX11_goNews 134 = .ok (.iaload, 1) := by decide +kernel
theorem dX11_goNews_135 : decode cX11_goNews 135 = .ok (.iload_n 3, 1) := by decide +kernel
theorem dX11_goNews_136 : decode cX11_goNews 136 = .ok (.invokevirtual 207, 3) := by decide +kernel
theorem dX11_goNews_139 : decode cX11_goNews 139 = .ok (.iinc 3 1, 3) := by decide +kernel
theorem dX11_goNews_142 : decode cX11_goNews 142 = .ok (.goto (-110), 3) := by decide +kernel
theorem dX11_goNews_145 : decode cX11_goNews 145 = .ok (.return_, 1) := by decide +kernel
set_option maxRecDepth 20000 in
theorem ggX11_knows_X11_noSleeper : GoodIn wsX11_knows wsX11_noSleeper := goodIn_r _ [6, 7, 8, 9, 5, 10, 43, 44, 45, 46, 47, 48, 49, 50, 51, 52, 53, 54, 55, 56, 57, 58, 59, 60, 61, 62, 63, 64, 65, 66, 67, 68, 69, 70, 71, 72, 73] (by decide +kernel) (by decide +kernel)
set_option maxRecDepth 20000 in
theorem gX11_knows_X11_noSleeper : GoodIn wsX11_knows (wsV RX11 150 RX11 yX11_noSleeper wsX11_noSleeper) := goodIn_app (goodIn_of _ (by decide +kernel)) ggX11_knows_X11_noSleeper
set_option maxRecDepth 20000 in
theorem ggX11_knows_X11_isMonth : GoodIn wsX11_knows wsX11_isMonth := goodIn_r _ [13, 14, 8, 9, 5, 10] (by decide +kernel) (by decide +kernel)
set_option maxRecDepth 20000 in
theorem gX11_knows_X11_isMonth : GoodIn wsX11_knows (va_wsS RX11 156 yX11_isMonth wsX11_isMonth) := goodIn_app (goodIn_of _ (by decide +kernel)) ggX11_knows_X11_isMonth
set_option maxRecDepth 20000 in
theorem ggX11_knows_X11_meanTold : GoodIn wsX11_knows wsX11_meanTold := goodIn_r _ [18, 19, 20, 43, 44, 45, 46, 47, 48, 49, 50, 51, 52, 53, 54, 55, 56, 57, 58, 59, 60, 61, 62, 63, 64, 65, 66, 67, 68, 69, 70, 71, 72, 73] (by decide +kernel) (by decide +kernel)
set_option maxRecDepth 20000 in
theorem gX11_knows_X11_meanTold : GoodIn wsX11_knows (wsV RX11 170 RX11 yX11_meanTold wsX11_meanTold) := goodIn_app (goodIn_of _ (by decide +kernel)) ggX11_knows_X11_meanTold
set_option maxRecDepth 20000 in
theorem ggX11_knows_X11_goNews : GoodIn wsX11_knows wsX11_goNews := goodIn_r _ [24, 1, 25, 26, 27, 19, 28, 29, 30, 5, 31, 7, 32, 33, 34, 35, 36, 37, 38, 39, 40, 41, 42, 43, 44, 45, 46, 47, 48, 49, 50, 51, 52, 53, 54, 55, 56, 57, 58, 59, 60, 61, 62, 63, 64, 65, 66, 67, 68, 69, 70, 71, 72, 73] (by decide +kernel) (by decide +kernel)
set_option maxRecDepth 20000 in
theorem gX11_knows_X11_goNews : GoodIn wsX11_knows (wsV RX11 214 RX11 yX11_goNews wsX11_goNews) := goodIn_app (goodIn_of _ (by decide +kernel)) ggX11_knows_X11_goNews
theorem dX11_knows_0 : decode cX11_knows 0 = .ok (.aload_n 0, 1) := by decide +kernel
theorem dX11_knows_1 : decode cX11_knows 1 = .ok (.iload_n 1, 1) := by decide +kernel
theorem dX11_knows_2 : decode cX11_knows 2 = .ok (.invokevirtual 150, 3) := by decide +kernel
theorem dX11_knows_5 : decode cX11_knows 5 = .ok (.ifCond .ne 11, 3) := by decide +kernel
theorem dX11_knows_8 : decode cX11_knows 8 = .ok (.aload_n 0, 1) := by decide +kernel
theorem dX11_knows_9 : decode cX11_knows 9 = .ok (.iload_n 3, 1) := by decide +kernel
theorem dX11_knows_10 : decode cX11_knows 10 = .ok (.invokevirtual 150, 3) := by decide +kernel
theorem dX11_knows_13 : decode cX11_knows 13 = .ok (.ifCond .eq 5, 3) := by decide +kernel
theorem dX11_knows_16 : decode cX11_knows 16 = .ok (.iconst (-1), 1) := by decide +kernel
theorem dX11_knows_17 : decode cX11_knows 17 = .ok (.ireturn, 1) := by decide +kernel
theorem dX11_knows_18 : decode cX11_knows 18 = .ok (.iload_n 2, 1) := by decide +kernel
theorem dX11_knows_19 : decode cX11_knows 19 = .ok (.invokestatic 156, 3) := by decide +kernel
theorem dX11_knows_22 : decode cX11_knows 22 = .ok (.ifCond .ne 6, 3) := by decide +kernel
theorem dX11_knows_25 : decode cX11_knows 25 = .ok (.bipush (-2), 2) := by decide +kernel
theorem dX11_knows_27 : decode cX11_knows 27 = .ok (.ireturn, 1) := by decide +kernel
theorem dX11_knows_28 : decode cX11_knows 28 = .ok (.aload_n 0, 1) := by decide +kernel
theorem dX11_knows_29 : decode cX11_knows 29 = .ok (.invokevirtual 170, 3) := by decide +kernel
theorem dX11_knows_32 : decode cX11_knows 32 = .ok (.aload_n 0, 1) := by decide +kernel
theorem dX11_knows_33 : decode cX11_knows 33 = .ok (.iload_n 1, 1) := by decide +kernel
theorem dX11_knows_34 : decode cX11_knows 34 = .ok (.iload_n 2, 1) := by decide +kernel
theorem dX11_knows_35 : decode cX11_knows 35 = .ok (.invokevirtual 214, 3) := by decide +kernel
theorem dX11_knows_38 : decode cX11_knows 38 = .ok (.aload_n 0, 1) := by decide +kernel
theorem dX11_knows_39 : decode cX11_knows 39 = .ok (.getfield 55, 3) := by decide +kernel
theorem dX11_knows_42 : decode cX11_knows 42 = .ok (.iload_n 3, 1) := by decide +kernel
theorem dX11_knows_43 : decode cX11_knows 43 = .ok (.iaload, 1) := by decide +kernel
theorem dX11_knows_44 : decode cX11_knows 44 = .ok (.sipush 9999, 3) := by decide +kernel
theorem dX11_knows_47 : decode cX11_knows 47 = .ok (.if_icmp .ne 8, 3) := by decide +kernel
theorem dX11_knows_50 : decode cX11_knows 50 = .ok (.bipush (-9), 2) := by decide +kernel
theorem dX11_knows_52 : decode cX11_knows 52 = .ok (.goto 9, 3) := by decide +kernel
theorem dX11_knows_55 : decode cX11_knows 55 = .ok (.aload_n 0, 1) := by decide +kernel
theorem dX11_knows_56 : decode cX11_knows 56 = .ok (.getfield 55, 3) := by decide +kernel
theorem dX11_knows_59 : decode cX11_knows 59 = .ok (.iload_n 3, 1) := by decide +kernel
theorem dX11_knows_60 : decode cX11_knows 60 = .ok (.iaload, 1) := by decide +kernel
theorem dX11_knows_61 : decode cX11_knows 61 = .ok (.ireturn, 1) := by decide +kernel
set_option maxRecDepth 20000 in
theorem ggX11_kept_X11_noSleeper : GoodIn wsX11_kept wsX11_noSleeper := goodIn_r _ [5, 6, 7, 8, 4, 9, 47, 48, 49, 50, 51, 52, 53, 54, 55, 56, 57, 58, 59, 60, 61, 62, 63, 64, 65, 66, 67, 68, 69, 70, 71, 72, 73, 74, 75, 76, 77] (by decide +kernel) (by decide +kernel)
set_option maxRecDepth 20000 in
theorem gX11_kept_X11_noSleeper : GoodIn wsX11_kept (wsV RX11 150 RX11 yX11_noSleeper wsX11_noSleeper) := goodIn_app (goodIn_of _ (by decide +kernel)) ggX11_kept_X11_noSleeper
set_option maxRecDepth 20000 in
theorem ggX11_kept_X11_isMonth : GoodIn wsX11_kept wsX11_isMonth := goodIn_r _ [12, 13, 7, 8, 4, 9] (by decide +kernel) (by decide +kernel)
set_option maxRecDepth 20000 in
theorem gX11_kept_X11_isMonth : GoodIn wsX11_kept (va_wsS RX11 156 yX11_isMonth wsX11_isMonth) := goodIn_app (goodIn_of _ (by decide +kernel)) ggX11_kept_X11_isMonth
set_option maxRecDepth 20000 in
theorem ggX11_kept_X11_meanTold : GoodIn wsX11_kept wsX11_meanTold := goodIn_r _ [17, 18, 19, 47, 48, 49, 50, 51, 52, 53, 54, 55, 56, 57, 58, 59, 60, 61, 62, 63, 64, 65, 66, 67, 68, 69, 70, 71, 72, 73, 74, 75, 76, 77] (by decide +kernel) (by decide +kernel)
set_option maxRecDepth 20000 in
theorem gX11_kept_X11_meanTold : GoodIn wsX11_kept (wsV RX11 170 RX11 yX11_meanTold wsX11_meanTold) := goodIn_app (goodIn_of _ (by decide +kernel)) ggX11_kept_X11_meanTold
set_option maxRecDepth 20000 in
theorem ggX11_kept_X11_goNews : GoodIn wsX11_kept wsX11_goNews := goodIn_r _ [23, 24, 25, 26, 27, 18, 28, 29, 30, 4, 31, 6, 32, 33, 34, 35, 36, 37, 38, 39, 40, 41, 42, 47, 48, 49, 50, 51, 52, 53, 54, 55, 56, 57, 58, 59, 60, 61, 62, 63, 64, 65, 66, 67, 68, 69, 70, 71, 72, 73, 74, 75, 76, 77] (by decide +kernel) (by decide +kernel)
set_option maxRecDepth 20000 in
theorem gX11_kept_X11_goNews : GoodIn wsX11_kept (wsV RX11 214 RX11 yX11_goNews wsX11_goNews) := goodIn_app (goodIn_of _ (by decide +kernel)) ggX11_kept_X11_goNews
set_option maxRecDepth 20000 in
theorem ggX11_kept_X11_all : GoodIn wsX11_kept wsX11_all := goodIn_r _ [46, 6, 47, 48, 49, 50, 51, 52, 53, 54, 55, 56, 57, 58, 59, 60, 61, 62, 63, 64, 65, 66, 67, 68, 69, 70, 71, 72, 73, 74, 75, 76, 77] (by decide +kernel) (by decide +kernel)
set_option maxRecDepth 20000 in
theorem gX11_kept_X11_all : GoodIn wsX11_kept (wsV RX11 185 RX11 yX11_all wsX11_all) := goodIn_app (goodIn_of _ (by decide +kernel)) ggX11_kept_X11_all
set_option maxRecDepth 20000 in
theorem ggX11_kept_X11_knownBy : GoodIn wsX11_kept wsX11_knownBy := goodIn_r _ [42, 6, 24, 47, 48, 49, 50, 51, 52, 53, 54, 55, 56, 57, 58, 59, 60, 61, 62, 63, 64, 65, 66, 67, 68, 69, 70, 71, 72, 73, 74, 75, 76, 77] (by decide +kernel) (by decide +kernel)
set_option maxRecDepth 20000 in
theorem gX11_kept_X11_knownBy : GoodIn wsX11_kept (wsV RX11 211 RX11 yX11_knownBy wsX11_knownBy) := goodIn_app (goodIn_of _ (by decide +kernel)) ggX11_kept_X11_knownBy
theorem dX11_kept_0 : decode cX11_kept 0 = .ok (.aload_n 0, 1) := by decide +kernel
theorem dX11_kept_1 : decode cX11_kept 1 = .ok (.iload_n 1, 1) := by decide +kernel
theorem dX11_kept_2 : decode cX11_kept 2 = .ok (.invokevirtual 150, 3) := by decide +kernel
theorem dX11_kept_5 : decode cX11_kept 5 = .ok (.ifCond .eq 5, 3) := by decide +kernel
theorem dX11_kept_8 : decode cX11_kept 8 = .ok (.iconst (-1), 1) := by decide +kernel
theorem dX11_kept_9 : decode cX11_kept 9 = .ok (.ireturn, 1) := by decide +kernel
theorem dX11_kept_10 : decode cX11_kept 10 = .ok (.iload_n 2, 1) := by decide +kernel
theorem dX11_kept_11 : decode cX11_kept 11 = .ok (.invokestatic 156, 3) := by decide +kernel
theorem dX11_kept_14 : decode cX11_kept 14 = .ok (.ifCond .ne 6, 3) := by decide +kernel
theorem dX11_kept_17 : decode cX11_kept 17 = .ok (.bipush (-2), 2) := by decide +kernel
theorem dX11_kept_19 : decode cX11_kept 19 = .ok (.ireturn, 1) := by decide +kernel
theorem dX11_kept_20 : decode cX11_kept 20 = .ok (.aload_n 0, 1) := by decide +kernel
theorem dX11_kept_21 : decode cX11_kept 21 = .ok (.invokevirtual 170, 3) := by decide +kernel
theorem dX11_kept_24 : decode cX11_kept 24 = .ok (.aload_n 0, 1) := by decide +kernel
theorem dX11_kept_25 : decode cX11_kept 25 = .ok (.iload_n 1, 1) := by decide +kernel
theorem dX11_kept_26 : decode cX11_kept 26 = .ok (.iload_n 2, 1) := by decide +kernel
theorem dX11_kept_27 : decode cX11_kept 27 = .ok (.invokevirtual 214, 3) := by decide +kernel
theorem dX11_kept_30 : decode cX11_kept 30 = .ok (.aload_n 0, 1) := by decide +kernel
theorem dX11_kept_31 : decode cX11_kept 31 = .ok (.invokevirtual 185, 3) := by decide +kernel
theorem dX11_kept_34 : decode cX11_kept 34 = .ok (.aload_n 0, 1) := by decide +kernel
theorem dX11_kept_35 : decode cX11_kept 35 = .ok (.bipush 11, 2) := by decide +kernel
theorem dX11_kept_37 : decode cX11_kept 37 = .ok (.invokevirtual 211, 3) := by decide +kernel
theorem dX11_kept_40 : decode cX11_kept 40 = .ok (.iconst (-1), 1) := by decide +kernel
theorem dX11_kept_41 : decode cX11_kept 41 = .ok (.ixor, 1) := by decide +kernel
theorem dX11_kept_42 : decode cX11_kept 42 = .ok (.iand, 1) := by decide +kernel
theorem dX11_kept_43 : decode cX11_kept 43 = .ok (.ireturn, 1) := by decide +kernel
set_option maxRecDepth 20000 in
theorem ggX11_reading_X11_noSleeper : GoodIn wsX11_reading wsX11_noSleeper := goodIn_r _ [9, 10, 11, 12, 8, 13, 18, 19, 20, 21, 22, 23, 24, 25, 26, 27, 28, 29, 30, 31, 32, 33, 34, 35, 36, 37, 38, 39, 40, 41, 42, 43, 44, 45, 46, 47, 48] (by decide +kernel) (by decide +kernel)
set_option maxRecDepth 20000 in
theorem gX11_reading_X11_noSleeper : GoodIn wsX11_reading (wsV RX11 150 RX11 yX11_noSleeper wsX11_noSleeper) := goodIn_app (goodIn_of _ (by decide +kernel)) ggX11_reading_X11_noSleeper
set_option maxRecDepth 20000 in
theorem ggX11_reading_X11_isMonth : GoodIn wsX11_reading wsX11_isMonth := goodIn_r _ [16, 17, 11, 12, 8, 13] (by decide +kernel) (by decide +kernel)
set_option maxRecDepth 20000 in
theorem gX11_reading_X11_isMonth : GoodIn wsX11_reading (va_wsS RX11 156 yX11_isMonth wsX11_isMonth) := goodIn_app (goodIn_of _ (by decide +kernel)) ggX11_reading_X11_isMonth
theorem dX11_reading_0 : decode cX11_reading 0 = .ok (.aload_n 0, 1) := by decide +kernel
theorem dX11_reading_1 : decode cX11_reading 1 = .ok (.iload_n 1, 1) := by decide +kernel
theorem dX11_reading_2 : decode cX11_reading 2 = .ok (.invokevirtual 150, 3) := by decide +kernel
theorem dX11_reading_5 : decode cX11_reading 5 = .ok (.ifCond .eq 5, 3) := by decide +kernel
theorem dX11_reading_8 : decode cX11_reading 8 = .ok (.iconst (-1), 1) := by decide +kernel
theorem dX11_reading_9 : decode cX11_reading 9 = .ok (.ireturn, 1) := by decide +kernel
theorem dX11_reading_10 : decode cX11_reading 10 = .ok (.iload_n 2, 1) := by decide +kernel
theorem dX11_reading_11 : decode cX11_reading 11 = .ok (.invokestatic 156, 3) := by decide +kernel
theorem dX11_reading_14 : decode cX11_reading 14 = .ok (.ifCond .ne 6, 3) := by decide +kernel
theorem dX11_reading_17 : decode cX11_reading 17 = .ok (.bipush (-2), 2) := by decide +kernel
theorem dX11_reading_19 : decode cX11_reading 19 = .ok (.ireturn, 1) := by decide +kernel
theorem dX11_reading_20 : decode cX11_reading 20 = .ok (.aload_n 0, 1) := by decide +kernel
theorem dX11_reading_21 : decode cX11_reading 21 = .ok (.getfield 147, 3) := by decide +kernel
theorem dX11_reading_24 : decode cX11_reading 24 = .ok (.bipush 8, 2) := by decide +kernel
theorem dX11_reading_26 : decode cX11_reading 26 = .ok (.if_icmp .ne 6, 3) := by decide +kernel
theorem dX11_reading_29 : decode cX11_reading 29 = .ok (.bipush (-4), 2) := by decide +kernel
theorem dX11_reading_31 : decode cX11_reading 31 = .ok (.ireturn, 1) := by decide +kernel
theorem dX11_reading_32 : decode cX11_reading 32 = .ok (.aload_n 0, 1) := by decide +kernel
theorem dX11_reading_33 : decode cX11_reading 33 = .ok (.getfield 58, 3) := by decide +kernel
theorem dX11_reading_36 : decode cX11_reading 36 = .ok (.aload_n 0, 1) := by decide +kernel
theorem dX11_reading_37 : decode cX11_reading 37 = .ok (.getfield 147, 3) := by decide +kernel
theorem dX11_reading_40 : decode cX11_reading 40 = .ok (.iload_n 1, 1) := by decide +kernel
theorem dX11_reading_41 : decode cX11_reading 41 = .ok (.iastore, 1) := by decide +kernel
theorem dX11_reading_42 : decode cX11_reading 42 = .ok (.aload_n 0, 1) := by decide +kernel
theorem dX11_reading_43 : decode cX11_reading 43 = .ok (.getfield 61, 3) := by decide +kernel
theorem dX11_reading_46 : decode cX11_reading 46 = .ok (.aload_n 0, 1) := by decide +kernel
theorem dX11_reading_47 : decode cX11_reading 47 = .ok (.getfield 147, 3) := by decide +kernel
theorem dX11_reading_50 : decode cX11_reading 50 = .ok (.iload_n 2, 1) := by decide +kernel
theorem dX11_reading_51 : decode cX11_reading 51 = .ok (.iastore, 1) := by decide +kernel
theorem dX11_reading_52 : decode cX11_reading 52 = .ok (.aload_n 0, 1) := by decide +kernel
theorem dX11_reading_53 : decode cX11_reading 53 = .ok (.getfield 64, 3) := by decide +kernel
theorem dX11_reading_56 : decode cX11_reading 56 = .ok (.aload_n 0, 1) := by decide +kernel
theorem dX11_reading_57 : decode cX11_reading 57 = .ok (.getfield 147, 3) := by decide +kernel
theorem dX11_reading_60 : decode cX11_reading 60 = .ok (.iload_n 3, 1) := by decide +kernel
theorem dX11_reading_61 : decode cX11_reading 61 = .ok (.bastore, 1) := by decide +kernel
theorem dX11_reading_62 : decode cX11_reading 62 = .ok (.aload_n 0, 1) := by decide +kernel
theorem dX11_reading_63 : decode cX11_reading 63 = .ok (.dup, 1) := by decide +kernel
theorem dX11_reading_64 : decode cX11_reading 64 = .ok (.getfield 147, 3) := by decide +kernel
theorem dX11_reading_67 : decode cX11_reading 67 = .ok (.iconst 1, 1) := by decide +kernel
theorem dX11_reading_68 : decode cX11_reading 68 = .ok (.iadd, 1) := by decide +kernel
theorem dX11_reading_69 : decode cX11_reading 69 = .ok (.putfield 147, 3) := by decide +kernel
theorem dX11_reading_72 : decode cX11_reading 72 = .ok (.aload_n 0, 1) := by decide +kernel
theorem dX11_reading_73 : decode cX11_reading 73 = .ok (.getfield 147, 3) := by decide +kernel
theorem dX11_reading_76 : decode cX11_reading 76 = .ok (.iconst 1, 1) := by decide +kernel
theorem dX11_reading_77 : decode cX11_reading 77 = .ok (.isub, 1) := by decide +kernel
theorem dX11_reading_78 : decode cX11_reading 78 = .ok (.ireturn, 1) := by decide +kernel
set_option maxRecDepth 20000 in
theorem ggX11_back_X11_in : GoodIn wsX11_back wsX11_in := goodIn_r _ [5] (by decide +kernel) (by decide +kernel)
set_option maxRecDepth 20000 in
theorem gX11_back_X11_in : GoodIn wsX11_back (va_wsS RX11 93 yX11_in wsX11_in) := goodIn_app (goodIn_of _ (by decide +kernel)) ggX11_back_X11_in
theorem dX11_back_0 : decode cX11_back 0 = .ok (.iload_n 1, 1) := by decide +kernel
theorem dX11_back_1 : decode cX11_back 1 = .ok (.i2l, 1) := by decide +kernel
theorem dX11_back_2 : decode cX11_back 2 = .ok (.lconst 0, 1) := by decide +kernel
theorem dX11_back_3 : decode cX11_back 3 = .ok (.aload_n 0, 1) := by decide +kernel
theorem dX11_back_4 : decode cX11_back 4 = .ok (.getfield 147, 3) := by decide +kernel
theorem dX11_back_7 : decode cX11_back 7 = .ok (.i2l, 1) := by decide +kernel
theorem dX11_back_8 : decode cX11_back 8 = .ok (.invokestatic 93, 3) := by decide +kernel
theorem dX11_back_11 : decode cX11_back 11 = .ok (.ifCond .ne 6, 3) := by decide +kernel
theorem dX11_back_14 : decode cX11_back 14 = .ok (.bipush (-2), 2) := by decide +kernel
theorem dX11_back_16 : decode cX11_back 16 = .ok (.ireturn, 1) := by decide +kernel
theorem dX11_back_17 : decode cX11_back 17 = .ok (.aload_n 0, 1) := by decide +kernel
theorem dX11_back_18 : decode cX11_back 18 = .ok (.dup, 1) := by decide +kernel
theorem dX11_back_19 : decode cX11_back 19 = .ok (.getfield 147, 3) := by decide +kernel
theorem dX11_back_22 : decode cX11_back 22 = .ok (.iload_n 1, 1) := by decide +kernel
theorem dX11_back_23 : decode cX11_back 23 = .ok (.isub, 1) := by decide +kernel
theorem dX11_back_24 : decode cX11_back 24 = .ok (.putfield 147, 3) := by decide +kernel
theorem dX11_back_27 : decode cX11_back 27 = .ok (.aload_n 0, 1) := by decide +kernel
theorem dX11_back_28 : decode cX11_back 28 = .ok (.getfield 147, 3) := by decide +kernel
theorem dX11_back_31 : decode cX11_back 31 = .ok (.ireturn, 1) := by decide +kernel
theorem dX11_areSo_0 : decode cX11_areSo 0 = .ok (.iconst 1, 1) := by decide +kernel
theorem dX11_areSo_1 : decode cX11_areSo 1 = .ok (.istore_n 1, 1) := by decide +kernel
theorem dX11_areSo_2 : decode cX11_areSo 2 = .ok (.iconst 0, 1) := by decide +kernel
theorem dX11_areSo_3 : decode cX11_areSo 3 = .ok (.istore_n 2, 1) := by decide +kernel
theorem dX11_areSo_4 : decode cX11_areSo 4 = .ok (.iload_n 2, 1) := by decide +kernel
theorem dX11_areSo_5 : decode cX11_areSo 5 = .ok (.aload_n 0, 1) := by decide +kernel
theorem dX11_areSo_6 : decode cX11_areSo 6 = .ok (.getfield 147, 3) := by decide +kernel
theorem dX11_areSo_9 : decode cX11_areSo 9 = .ok (.if_icmp .ge 53, 3) := by decide +kernel
theorem dX11_areSo_12 : decode cX11_areSo 12 = .ok (.iload_n 1, 1) := by decide +kernel
theorem dX11_areSo_13 : decode cX11_areSo 13 = .ok (.ifCond .eq 41, 3) := by decide +kernel
theorem dX11_areSo_16 : decode cX11_areSo 16 = .ok (.aload_n 0, 1) := by decide +kernel
theorem dX11_areSo_17 : decode cX11_areSo 17 = .ok (.getfield 55, 3) := by decide +kernel
theorem dX11_areSo_20 : decode cX11_areSo 20 = .ok (.aload_n 0, 1) := by decide +kernel
theorem dX11_areSo_21 : decode cX11_areSo 21 = .ok (.getfield 58, 3) := by decide +kernel
theorem dX11_areSo_24 : decode cX11_areSo 24 = .ok (.iload_n 2, 1) := by decide +kernel
theorem dX11_areSo_25 : decode cX11_areSo 25 = .ok (.iaload, 1) := by decide +kernel
theorem dX11_areSo_26 : decode cX11_areSo 26 = .ok (.iaload, 1) := by decide +kernel
theorem dX11_areSo_27 : decode cX11_areSo 27 = .ok (.aload_n 0, 1) := by decide +kernel
theorem dX11_areSo_28 : decode cX11_areSo 28 = .ok (.getfield 61, 3) := by decide +kernel
theorem dX11_areSo_31 : decode cX11_areSo 31 = .ok (.iload_n 2, 1) := by decide +kernel
theorem dX11_areSo_32 : decode cX11_areSo 32 = .ok (.iaload, 1) := by decide +kernel
theorem dX11_areSo_33 : decode cX11_areSo 33 = .ok (.if_icmp .gt 7, 3) := by decide +kernel
theorem dX11_areSo_36 : decode cX11_areSo 36 = .ok (.iconst 1, 1) := by decide +kernel
theorem dX11_areSo_37 : decode cX11_areSo 37 = .ok (.goto 4, 3) := by decide +kernel
theorem dX11_areSo_40 : decode cX11_areSo 40 = .ok (.iconst 0, 1) := by decide +kernel
theorem dX11_areSo_41 : decode cX11_areSo 41 = .ok (.aload_n 0, 1) := by decide +kernel
theorem dX11_areSo_42 : decode cX11_areSo 42 = .ok (.getfield 64, 3) := by decide +kernel
theorem dX11_areSo_45 : decode cX11_areSo 45 = .ok (.iload_n 2, 1) := by decide +kernel
theorem dX11_areSo_46 : decode cX11_areSo 46 = .ok (.baload, 1) := by decide +kernel
theorem dX11_areSo_47 : decode cX11_areSo 47 = .ok (.if_icmp .ne 7, 3) := by decide +kernel
theorem dX11_areSo_50 : decode cX11_areSo 50 = .ok (.iconst 1, 1) := by decide +kernel
theorem dX11_areSo_51 : decode cX11_areSo 51 = .ok (.goto 4, 3) := by decide +kernel
theorem dX11_areSo_54 : decode cX11_areSo 54 = .ok (.iconst 0, 1) := by decide +kernel
theorem dX11_areSo_55 : decode cX11_areSo 55 = .ok (.istore_n 1, 1) := by decide +kernel
theorem dX11_areSo_56 : decode cX11_areSo 56 = .ok (.iinc 2 1, 3) := by decide +kernel
theorem dX11_areSo_59 : decode cX11_areSo 59 = .ok (.goto (-55), 3) := by decide +kernel
theorem dX11_areSo_62 : decode cX11_areSo 62 = .ok (.iload_n 1, 1) := by decide +kernel
theorem dX11_areSo_63 : decode cX11_areSo 63 = .ok (.ireturn, 1) := by decide +kernel
set_option maxRecDepth 20000 in
theorem ggX11_began_X11_isMonth : GoodIn wsX11_began wsX11_isMonth := goodIn_r _ [5, 6, 7, 8, 4, 9] (by decide +kernel) (by decide +kernel)
set_option maxRecDepth 20000 in
theorem gX11_began_X11_isMonth : GoodIn wsX11_began (va_wsS RX11 156 yX11_isMonth wsX11_isMonth) := goodIn_app (goodIn_of _ (by decide +kernel)) ggX11_began_X11_isMonth
set_option maxRecDepth 20000 in
theorem ggX11_began_X11_meanTold : GoodIn wsX11_began wsX11_meanTold := goodIn_r _ [13, 14, 15, 47, 48, 49, 50, 51, 52, 53, 54, 55, 56, 57, 58, 59, 60, 61, 62, 63, 64, 65, 66, 67, 68, 69, 70, 71, 72, 73, 74, 75, 76, 77] (by decide +kernel) (by decide +kernel)
set_option maxRecDepth 20000 in
theorem gX11_began_X11_meanTold : GoodIn wsX11_began (wsV RX11 170 RX11 yX11_meanTold wsX11_meanTold) := goodIn_app (goodIn_of _ (by decide +kernel)) ggX11_began_X11_meanTold
set_option maxRecDepth 20000 in
theorem ggX11_began_X11_goNews : GoodIn wsX11_began wsX11_goNews := goodIn_r _ [19, 20, 21, 22, 23, 14, 24, 25, 26, 4, 27, 1, 28, 29, 30, 31, 32, 33, 34, 35, 36, 37, 38, 47, 48, 49, 50, 51, 52, 53, 54, 55, 56, 57, 58, 59, 60, 61, 62, 63, 64, 65, 66, 67, 68, 69, 70, 71, 72, 73, 74, 75, 76, 77] (by decide +kernel) (by decide +kernel)
set_option maxRecDepth 20000 in
theorem gX11_began_X11_goNews : GoodIn wsX11_began (wsV RX11 214 RX11 yX11_goNews wsX11_goNews) := goodIn_app (goodIn_of _ (by decide +kernel)) ggX11_began_X11_goNews
set_option maxRecDepth 20000 in
theorem ggX11_began_X11_areSo : GoodIn wsX11_began wsX11_areSo := goodIn_r _ [42, 43, 20, 44, 45, 46, 47, 48, 49, 50, 51, 52, 53, 54, 55, 56, 57, 58, 59, 60, 61, 62, 63, 64, 65, 66, 67, 68, 69, 70, 71, 72, 73, 74, 75, 76, 77] (by decide +kernel) (by decide +kernel)
set_option maxRecDepth 20000 in
theorem gX11_began_X11_areSo : GoodIn wsX11_began (wsV RX11 217 RX11 yX11_areSo wsX11_areSo) := goodIn_app (goodIn_of _ (by decide +kernel)) ggX11_began_X11_areSo
theorem dX11_began_0 : decode cX11_began 0 = .ok (.iload_n 1, 1) := by decide +kernel
theorem dX11_began_1 : decode cX11_began 1 = .ok (.invokestatic 156, 3) := by decide +kernel
theorem dX11_began_4 : decode cX11_began 4 = .ok (.ifCond .ne 6, 3) := by decide +kernel
theorem dX11_began_7 : decode cX11_began 7 = .ok (.bipush (-2), 2) := by decide +kernel
theorem dX11_began_9 : decode cX11_began 9 = .ok (.ireturn, 1) := by decide +kernel
theorem dX11_began_10 : decode cX11_began 10 = .ok (.aload_n 0, 1) := by decide +kernel
theorem dX11_began_11 : decode cX11_began 11 = .ok (.getfield 90, 3) := by decide +kernel
theorem dX11_began_14 : decode cX11_began 14 = .ok (.ifCond .ne 6, 3) := by decide +kernel
theorem dX11_began_17 : decode cX11_began 17 = .ok (.bipush (-3), 2) := by decide +kernel
theorem dX11_began_19 : decode cX11_began 19 = .ok (.ireturn, 1) := by decide +kernel
theorem dX11_began_20 : decode cX11_began 20 = .ok (.aload_n 0, 1) := by decide +kernel
theorem dX11_began_21 : decode cX11_began 21 = .ok (.invokevirtual 170, 3) := by decide +kernel
theorem dX11_began_24 : decode cX11_began 24 = .ok (.iconst 0, 1) := by decide +kernel
theorem dX11_began_25 : decode cX11_began 25 = .ok (.istore_n 2, 1) := by decide +kernel
theorem dX11_began_26 : decode cX11_began 26 = .ok (.iconst 0, 1) := by decide +kernel
theorem dX11_began_27 : decode cX11_began 27 = .ok (.istore_n 3, 1) := by decide +kernel
theorem dX11_began_28 : decode cX11_began 28 = .ok (.iload_n 3, 1) := by decide +kernel
theorem dX11_began_29 : decode cX11_began 29 = .ok (.aload_n 0, 1) := by decide +kernel
theorem dX11_began_30 : decode cX11_began 30 = .ok (.getfield 90, 3) := by decide +kernel
theorem dX11_began_33 : decode cX11_began 33 = .ok (.if_icmp .ge 32, 3) := by decide +kernel
theorem dX11_began_36 : decode cX11_began 36 = .ok (.aload_n 0, 1) := by decide +kernel
theorem dX11_began_37 : decode cX11_began 37 = .ok (.iload_n 3, 1) := by decide +kernel
theorem dX11_began_38 : decode cX11_began 38 = .ok (.iload_n 1, 1) := by decide +kernel
theorem dX11_began_39 : decode cX11_began 39 = .ok (.invokevirtual 214, 3) := by decide +kernel
theorem dX11_began_42 : decode cX11_began 42 = .ok (.iload_n 2, 1) := by decide +kernel
theorem dX11_began_43 : decode cX11_began 43 = .ok (.aload_n 0, 1) := by decide +kernel
theorem dX11_began_44 : decode cX11_began 44 = .ok (.invokevirtual 217, 3) := by decide +kernel
theorem dX11_began_47 : decode cX11_began 47 = .ok (.ifCond .eq 9, 3) := by decide +kernel
theorem dX11_began_50 : decode cX11_began 50 = .ok (.iconst 1, 1) := by decide +kernel
theorem dX11_began_51 : decode cX11_began 51 = .ok (.iload_n 3, 1) := by decide +kernel
theorem dX11_began_52 : decode cX11_began 52 = .ok (.ishl, 1) := by decide +kernel
theorem dX11_began_53 : decode cX11_began 53 = .ok (.goto 4, 3) := by decide +kernel
theorem dX11_began_56 : decode cX11_began 56 = .ok (.iconst 0, 1) := by decide +kernel
theorem dX11_began_57 : decode cX11_began 57 = .ok (.ior, 1) := by decide +kernel
theorem dX11_began_58 : decode cX11_began 58 = .ok (.istore_n 2, 1) := by decide +kernel
theorem dX11_began_59 : decode cX11_began 59 = .ok (.iinc 3 1, 3) := by decide +kernel
theorem dX11_began_62 : decode cX11_began 62 = .ok (.goto (-34), 3) := by decide +kernel
theorem dX11_began_65 : decode cX11_began 65 = .ok (.iload_n 2, 1) := by decide +kernel
theorem dX11_began_66 : decode cX11_began 66 = .ok (.ireturn, 1) := by decide +kernel
set_option maxRecDepth 20000 in
theorem ggX11_woken_X11_noSleeper : GoodIn wsX11_woken wsX11_noSleeper := goodIn_r _ [8, 1, 9, 10, 7, 11, 51, 52, 53, 54, 55, 56, 57, 58, 59, 60, 61, 62, 63, 64, 65, 66, 67, 68, 69, 70, 71, 72, 73, 74, 75, 76, 77, 78, 79, 80, 81] (by decide +kernel) (by decide +kernel)
set_option maxRecDepth 20000 in
theorem gX11_woken_X11_noSleeper : GoodIn wsX11_woken (wsV RX11 150 RX11 yX11_noSleeper wsX11_noSleeper) := goodIn_app (goodIn_of _ (by decide +kernel)) ggX11_woken_X11_noSleeper
set_option maxRecDepth 20000 in
theorem ggX11_woken_X11_isMonth : GoodIn wsX11_woken wsX11_isMonth := goodIn_r _ [14, 15, 9, 10, 7, 11] (by decide +kernel) (by decide +kernel)
set_option maxRecDepth 20000 in
theorem gX11_woken_X11_isMonth : GoodIn wsX11_woken (va_wsS RX11 156 yX11_isMonth wsX11_isMonth) := goodIn_app (goodIn_of _ (by decide +kernel)) ggX11_woken_X11_isMonth
set_option maxRecDepth 20000 in
theorem ggX11_woken_X11_meanTold : GoodIn wsX11_woken wsX11_meanTold := goodIn_r _ [19, 2, 3, 51, 52, 53, 54, 55, 56, 57, 58, 59, 60, 61, 62, 63, 64, 65, 66, 67, 68, 69, 70, 71, 72, 73, 74, 75, 76, 77, 78, 79, 80, 81] (by decide +kernel) (by decide +kernel)
set_option maxRecDepth 20000 in
theorem gX11_woken_X11_meanTold : GoodIn wsX11_woken (wsV RX11 170 RX11 yX11_meanTold wsX11_meanTold) := goodIn_app (goodIn_of _ (by decide +kernel)) ggX11_woken_X11_meanTold
set_option maxRecDepth 20000 in
theorem ggX11_woken_X11_goNews : GoodIn wsX11_woken wsX11_goNews := goodIn_r _ [23, 24, 25, 26, 27, 2, 28, 29, 30, 7, 31, 1, 32, 33, 34, 35, 36, 37, 38, 39, 40, 41, 42, 51, 52, 53, 54, 55, 56, 57, 58, 59, 60, 61, 62, 63, 64, 65, 66, 67, 68, 69, 70, 71, 72, 73, 74, 75, 76, 77, 78, 79, 80, 81] (by decide +kernel) (by decide +kernel)
set_option maxRecDepth 20000 in
theorem gX11_woken_X11_goNews : GoodIn wsX11_woken (wsV RX11 214 RX11 yX11_goNews wsX11_goNews) := goodIn_app (goodIn_of _ (by decide +kernel)) ggX11_woken_X11_goNews
set_option maxRecDepth 20000 in
theorem ggX11_woken_X11_areSo : GoodIn wsX11_woken wsX11_areSo := goodIn_r _ [46, 47, 24, 48, 49, 50, 51, 52, 53, 54, 55, 56, 57, 58, 59, 60, 61, 62, 63, 64, 65, 66, 67, 68, 69, 70, 71, 72, 73, 74, 75, 76, 77, 78, 79, 80, 81] (by decide +kernel) (by decide +kernel)
set_option maxRecDepth 20000 in
theorem gX11_woken_X11_areSo : GoodIn wsX11_woken (wsV RX11 217 RX11 yX11_areSo wsX11_areSo) := goodIn_app (goodIn_of _ (by decide +kernel)) ggX11_woken_X11_areSo
theorem dX11_woken_0 : decode cX11_woken 0 = .ok (.aload_n 0, 1) := by decide +kernel
theorem dX11_woken_1 : decode cX11_woken 1 = .ok (.iload_n 1, 1) := by decide +kernel
theorem dX11_woken_2 : decode cX11_woken 2 = .ok (.invokevirtual 150, 3) := by decide +kernel
theorem dX11_woken_5 : decode cX11_woken 5 = .ok (.ifCond .eq 5, 3) := by decide +kernel
theorem dX11_woken_8 : decode cX11_woken 8 = .ok (.iconst (-1), 1) := by decide +kernel
theorem dX11_woken_9 : decode cX11_woken 9 = .ok (.ireturn, 1) := by decide +kernel
theorem dX11_woken_10 : decode cX11_woken 10 = .ok (.iload_n 2, 1) := by decide +kernel
theorem dX11_woken_11 : decode cX11_woken 11 = .ok (.invokestatic 156, 3) := by decide +kernel
theorem dX11_woken_14 : decode cX11_woken 14 = .ok (.ifCond .eq 10, 3) := by decide +kernel
theorem dX11_woken_17 : decode cX11_woken 17 = .ok (.iload_n 3, 1) := by decide +kernel
theorem dX11_woken_18 : decode cX11_woken 18 = .ok (.invokestatic 156, 3) := by decide +kernel
theorem dX11_woken_21 : decode cX11_woken 21 = .ok (.ifCond .ne 6, 3) := by decide +kernel
theorem dX11_woken_24 : decode cX11_woken 24 = .ok (.bipush (-2), 2) := by decide +kernel
theorem dX11_woken_26 : decode cX11_woken 26 = .ok (.ireturn, 1) := by decide +kernel
theorem dX11_woken_27 : decode cX11_woken 27 = .ok (.aload_n 0, 1) := by decide +kernel
theorem dX11_woken_28 : decode cX11_woken 28 = .ok (.invokevirtual 170, 3) := by decide +kernel
theorem dX11_woken_31 : decode cX11_woken 31 = .ok (.iconst 0, 1) := by decide +kernel
theorem dX11_woken_32 : decode cX11_woken 32 = .ok (.istore 4, 2) := by decide +kernel
theorem dX11_woken_34 : decode cX11_woken 34 = .ok (.iconst 0, 1) := by decide +kernel
theorem dX11_woken_35 : decode cX11_woken 35 = .ok (.istore 5, 2) := by decide +kernel
theorem dX11_woken_37 : decode cX11_woken 37 = .ok (.iload 5, 2) := by decide +kernel
theorem dX11_woken_39 : decode cX11_woken 39 = .ok (.aload_n 0, 1) := by decide +kernel
theorem dX11_woken_40 : decode cX11_woken 40 = .ok (.getfield 90, 3) := by decide +kernel
theorem dX11_woken_43 : decode cX11_woken 43 = .ok (.if_icmp .ge 52, 3) := by decide +kernel
theorem dX11_woken_46 : decode cX11_woken 46 = .ok (.aload_n 0, 1) := by decide +kernel
theorem dX11_woken_47 : decode cX11_woken 47 = .ok (.getfield 40, 3) := by decide +kernel
theorem dX11_woken_50 : decode cX11_woken 50 = .ok (.iload_n 3, 1) := by decide +kernel
theorem dX11_woken_51 : decode cX11_woken 51 = .ok (.aload_n 0, 1) := by decide +kernel
theorem dX11_woken_52 : decode cX11_woken 52 = .ok (.getfield 19, 3) := by decide +kernel
theorem dX11_woken_55 : decode cX11_woken 55 = .ok (.iload_n 3, 1) := by decide +kernel
theorem dX11_woken_56 : decode cX11_woken 56 = .ok (.iaload, 1) := by decide +kernel
theorem dX11_woken_57 : decode cX11_woken 57 = .ok (.iconst 1, 1) := by decide +kernel
theorem dX11_woken_58 : decode cX11_woken 58 = .ok (.iload 5, 2) := by decide +kernel
theorem dX11_woken_60 : decode cX11_woken 60 = .ok (.ishl, 1) := by decide +kernel
theorem dX11_woken_61 : decode cX11_woken 61 = .ok (.ior, 1) := by decide +kernel
theorem dX11_woken_62 : decode cX11_woken 62 = .ok (.iastore, 1) := by decide +kernel
theorem dX11_woken_63 : decode cX11_woken 63 = .ok (.aload_n 0, 1) := by decide +kernel
theorem dX11_woken_64 : decode cX11_woken 64 = .ok (.iload_n 1, 1) := by decide +kernel
theorem dX11_woken_65 : decode cX11_woken 65 = .ok (.iload_n 2, 1) := by decide +kernel
theorem dX11_woken_66 : decode cX11_woken 66 = .ok (.invokevirtual 214, 3) := by decide +kernel
theorem dX11_woken_69 : decode cX11_woken 69 = .ok (.iload 4, 2) := by decide +kernel
theorem dX11_woken_71 : decode cX11_woken 71 = .ok (.aload_n 0, 1) := by decide +kernel
theorem dX11_woken_72 : decode cX11_woken 72 = .ok (.invokevirtual 217, 3) := by decide +kernel
theorem dX11_woken_75 : decode cX11_woken 75 = .ok (.ifCond .eq 10, 3) := by decide +kernel
theorem dX11_woken_78 : decode cX11_woken 78 = .ok (.iconst 1, 1) := by decide +kernel
theorem dX11_woken_79 : decode cX11_woken 79 = .ok (.iload 5, 2) := by decide +kernel
theorem dX11_woken_81 : decode cX11_woken 81 = .ok (.ishl, 1) := by decide +kernel
theorem dX11_woken_82 : decode cX11_woken 82 = .ok (.goto 4, 3) := by decide +kernel
theorem dX11_woken_85 : decode cX11_woken 85 = .ok (.iconst 0, 1) := by decide +kernel
theorem dX11_woken_86 : decode cX11_woken 86 = .ok (.ior, 1) := by decide +kernel
theorem dX11_woken_87 : decode cX11_woken 87 = .ok (.istore 4, 2) := by decide +kernel
theorem dX11_woken_89 : decode cX11_woken 89 = .ok (.iinc 5 1, 3) := by decide +kernel
theorem dX11_woken_92 : decode cX11_woken 92 = .ok (.goto (-55), 3) := by decide +kernel
theorem dX11_woken_95 : decode cX11_woken 95 = .ok (.iload 4, 2) := by decide +kernel
theorem dX11_woken_97 : decode cX11_woken 97 = .ok (.ireturn, 1) := by decide +kernel
set_option maxRecDepth 20000 in
theorem ggX11_odds_X11_isMonth : GoodIn wsX11_odds wsX11_isMonth := goodIn_r _ [7, 8, 9, 10, 6, 11] (by decide +kernel) (by decide +kernel)
set_option maxRecDepth 20000 in
theorem gX11_odds_X11_isMonth : GoodIn wsX11_odds (va_wsS RX11 156 yX11_isMonth wsX11_isMonth) := goodIn_app (goodIn_of _ (by decide +kernel)) ggX11_odds_X11_isMonth
set_option maxRecDepth 20000 in
theorem ggX11_odds_X11_in : GoodIn wsX11_odds wsX11_in := goodIn_r _ [11] (by decide +kernel) (by decide +kernel)
set_option maxRecDepth 20000 in
theorem gX11_odds_X11_in : GoodIn wsX11_odds (va_wsS RX11 93 yX11_in wsX11_in) := goodIn_app (goodIn_of _ (by decide +kernel)) ggX11_odds_X11_in
set_option maxRecDepth 20000 in
theorem ggX11_odds_X11_lost : GoodIn wsX11_odds wsX11_lost := goodIn_r _ [14, 15] (by decide +kernel) (by decide +kernel)
set_option maxRecDepth 20000 in
theorem gX11_odds_X11_lost : GoodIn wsX11_odds (va_wsS RX11 86 yX11_lost wsX11_lost) := goodIn_app (goodIn_of _ (by decide +kernel)) ggX11_odds_X11_lost
set_option maxRecDepth 20000 in
theorem ggX11_odds_X11_all : GoodIn wsX11_odds wsX11_all := goodIn_r _ [19, 1, 52, 53, 54, 55, 56, 57, 58, 59, 60, 61, 62, 63, 64, 65, 66, 67, 68, 69, 70, 71, 72, 73, 74, 75, 76, 77, 78, 79, 80, 81, 82] (by decide +kernel) (by decide +kernel)
set_option maxRecDepth 20000 in
theorem gX11_odds_X11_all : GoodIn wsX11_odds (wsV RX11 185 RX11 yX11_all wsX11_all) := goodIn_app (goodIn_of _ (by decide +kernel)) ggX11_odds_X11_all
set_option maxRecDepth 20000 in
theorem ggX11_odds_X11_goMonths : GoodIn wsX11_odds wsX11_goMonths := goodIn_r _ [23, 1, 24, 2, 25, 26, 27, 28, 29, 30, 6, 31, 32, 33, 34, 35, 36, 37, 38, 39, 40, 41, 42, 43, 52, 53, 54, 55, 56, 57, 58, 59, 60, 61, 62, 63, 64, 65, 66, 67, 68, 69, 70, 71, 72, 73, 74, 75, 76, 77, 78, 79, 80, 81, 82] (by decide +kernel) (by decide +kernel)
set_option maxRecDepth 20000 in
theorem gX11_odds_X11_goMonths : GoodIn wsX11_odds (wsV RX11 173 RX11 yX11_goMonths wsX11_goMonths) := goodIn_app (goodIn_of _ (by decide +kernel)) ggX11_odds_X11_goMonths
set_option maxRecDepth 20000 in
theorem ggX11_odds_X11_lackedIn : GoodIn wsX11_odds wsX11_lackedIn := goodIn_r _ [47, 48, 28, 29, 30, 6, 31, 1, 2, 25, 32, 33, 34, 52, 53, 54, 55, 56, 57, 58, 59, 60, 61, 62, 63, 64, 65, 66, 67, 68, 69, 70, 71, 72, 73, 74, 75, 76, 77, 78, 79, 80, 81, 82] (by decide +kernel) (by decide +kernel)
set_option maxRecDepth 20000 in
theorem gX11_odds_X11_lackedIn : GoodIn wsX11_odds (wsV RX11 179 RX11 yX11_lackedIn wsX11_lackedIn) := goodIn_app (goodIn_of _ (by decide +kernel)) ggX11_odds_X11_lackedIn
set_option maxRecDepth 20000 in
theorem ggX11_odds_X11_told : GoodIn wsX11_odds wsX11_told := goodIn_r _ [51] (by decide +kernel) (by decide +kernel)
set_option maxRecDepth 20000 in
theorem gX11_odds_X11_told : GoodIn wsX11_odds (va_wsS RX11 221 yX11_told wsX11_told) := goodIn_app (goodIn_of _ (by decide +kernel)) ggX11_odds_X11_told
theorem dX11_odds_0 : decode cX11_odds 0 = .ok (.iload_n 1, 1) := by decide +kernel
theorem dX11_odds_1 : decode cX11_odds 1 = .ok (.invokestatic 156, 3) := by decide +kernel
theorem dX11_odds_4 : decode cX11_odds 4 = .ok (.ifCond .eq 20, 3) := by decide +kernel
theorem dX11_odds_7 : decode cX11_odds 7 = .ok (.iload_n 2, 1) := by decide +kernel
theorem dX11_odds_8 : decode cX11_odds 8 = .ok (.i2l, 1) := by decide +kernel
theorem dX11_odds_9 : decode cX11_odds 9 = .ok (.lconst 0, 1) := by decide +kernel
theorem dX11_odds_10 : decode cX11_odds 10 = .ok (.lconst 1, 1) := by decide +kernel
theorem dX11_odds_11 : decode cX11_odds 11 = .ok (.invokestatic 93, 3) := by decide +kernel
theorem dX11_odds_14 : decode cX11_odds 14 = .ok (.ifCond .eq 10, 3) := by decide +kernel
