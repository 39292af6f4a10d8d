theorem dX6_runFor_9 : decode cX6_runFor 9 = .ok (.if_icmp .ge 9, 3) := by decide +kernel
theorem dX6_runFor_12 : decode cX6_runFor 12 = .ok (.iload_n 3, 1) := by decide +kernel
theorem dX6_runFor_13 : decode cX6_runFor 13 = .ok (.iconst 1, 1) := by decide +kernel
theorem dX6_runFor_14 : decode cX6_runFor 14 = .ok (.iadd, 1) := by decide +kernel
theorem dX6_runFor_15 : decode cX6_runFor 15 = .ok (.goto 4, 3) := by decide +kernel
theorem dX6_runFor_18 : decode cX6_runFor 18 = .ok (.iload_n 3, 1) := by decide +kernel
theorem dX6_runFor_19 : decode cX6_runFor 19 = .ok (.istore 4, 2) := by decide +kernel
theorem dX6_runFor_21 : decode cX6_runFor 21 = .ok (.aload_n 0, 1) := by decide +kernel
theorem dX6_runFor_22 : decode cX6_runFor 22 = .ok (.getfield 9, 3) := by decide +kernel
theorem dX6_runFor_25 : decode cX6_runFor 25 = .ok (.iconst 2, 1) := by decide +kernel
theorem dX6_runFor_26 : decode cX6_runFor 26 = .ok (.dup2, 1) := by decide +kernel
theorem dX6_runFor_27 : decode cX6_runFor 27 = .ok (.iaload, 1) := by decide +kernel
theorem dX6_runFor_28 : decode cX6_runFor 28 = .ok (.iload 4, 2) := by decide +kernel
theorem dX6_runFor_30 : decode cX6_runFor 30 = .ok (.bipush 20, 2) := by decide +kernel
theorem dX6_runFor_32 : decode cX6_runFor 32 = .ok (.iadd, 1) := by decide +kernel
theorem dX6_runFor_33 : decode cX6_runFor 33 = .ok (.iconst 1, 1) := by decide +kernel
theorem dX6_runFor_34 : decode cX6_runFor 34 = .ok (.isub, 1) := by decide +kernel
theorem dX6_runFor_35 : decode cX6_runFor 35 = .ok (.bipush 20, 2) := by decide +kernel
theorem dX6_runFor_37 : decode cX6_runFor 37 = .ok (.idiv, 1) := by decide +kernel
theorem dX6_runFor_38 : decode cX6_runFor 38 = .ok (.iadd, 1) := by decide +kernel
theorem dX6_runFor_39 : decode cX6_runFor 39 = .ok (.iastore, 1) := by decide +kernel
theorem dX6_runFor_40 : decode cX6_runFor 40 = .ok (.return_, 1) := by decide +kernel
set_option maxRecDepth 20000 in
theorem ggX6_lower_X6_lower : GoodIn wsX6_lower wsX6_lower := goodIn_r _ [0, 1, 2, 3, 4, 5, 6, 7, 8, 9, 10, 11, 12, 13, 14, 15, 16, 17, 18, 19, 20, 21, 22, 23, 24, 25, 26, 27, 28, 29, 30, 31, 32, 33, 34, 35, 36, 37, 38, 39, 40, 41, 42, 43, 44, 45, 46, 47, 48, 49, 50, 51] (by decide +kernel) (by decide +kernel)
set_option maxRecDepth 20000 in
theorem gX6_lower_X6_lower : GoodIn wsX6_lower (wsV RX6 91 RX6 yX6_lower wsX6_lower) := goodIn_app (goodIn_of _ (by decide +kernel)) ggX6_lower_X6_lower
set_option maxRecDepth 20000 in
theorem ggX6_lower_X6_runFor : GoodIn wsX6_lower wsX6_runFor := goodIn_r _ [10, 1, 11, 12, 13, 6, 14, 15, 16, 17, 18, 19, 2, 20, 21, 22, 23, 24, 25, 26, 27, 28, 29, 30, 31, 32, 33, 34, 35, 36, 37, 38, 39, 40, 41, 42, 43, 44, 45, 46, 47, 48, 49, 50, 51] (by decide +kernel) (by decide +kernel)
set_option maxRecDepth 20000 in
theorem gX6_lower_X6_runFor : GoodIn wsX6_lower (wsV RX6 95 RX6 yX6_runFor wsX6_runFor) := goodIn_app (goodIn_of _ (by decide +kernel)) ggX6_lower_X6_runFor
theorem dX6_lower_0 : decode cX6_lower 0 = .ok (.aload_n 0, 1) := by decide +kernel
theorem dX6_lower_1 : decode cX6_lower 1 = .ok (.getfield 9, 3) := by decide +kernel
theorem dX6_lower_4 : decode cX6_lower 4 = .ok (.iconst 3, 1) := by decide +kernel
theorem dX6_lower_5 : decode cX6_lower 5 = .ok (.iload_n 1, 1) := by decide +kernel
theorem dX6_lower_6 : decode cX6_lower 6 = .ok (.iadd, 1) := by decide +kernel
theorem dX6_lower_7 : decode cX6_lower 7 = .ok (.iaload, 1) := by decide +kernel
theorem dX6_lower_8 : decode cX6_lower 8 = .ok (.iload_n 2, 1) := by decide +kernel
theorem dX6_lower_9 : decode cX6_lower 9 = .ok (.if_icmp .le 50, 3) := by decide +kernel
theorem dX6_lower_12 : decode cX6_lower 12 = .ok (.iload_n 1, 1) := by decide +kernel
theorem dX6_lower_13 : decode cX6_lower 13 = .ok (.ifCond .le 28, 3) := by decide +kernel
theorem dX6_lower_16 : decode cX6_lower 16 = .ok (.aload_n 0, 1) := by decide +kernel
theorem dX6_lower_17 : decode cX6_lower 17 = .ok (.getfield 9, 3) := by decide +kernel
theorem dX6_lower_20 : decode cX6_lower 20 = .ok (.iconst 3, 1) := by decide +kernel
theorem dX6_lower_21 : decode cX6_lower 21 = .ok (.iload_n 1, 1) := by decide +kernel
theorem dX6_lower_22 : decode cX6_lower 22 = .ok (.iadd, 1) := by decide +kernel
theorem dX6_lower_23 : decode cX6_lower 23 = .ok (.iconst 1, 1) := by decide +kernel
theorem dX6_lower_24 : decode cX6_lower 24 = .ok (.isub, 1) := by decide +kernel
theorem dX6_lower_25 : decode cX6_lower 25 = .ok (.iaload, 1) := by decide +kernel
theorem dX6_lower_26 : decode cX6_lower 26 = .ok (.aload_n 0, 1) := by decide +kernel
theorem dX6_lower_27 : decode cX6_lower 27 = .ok (.getfield 30, 3) := by decide +kernel
theorem dX6_lower_30 : decode cX6_lower 30 = .ok (.if_icmp .ne 11, 3) := by decide +kernel
theorem dX6_lower_33 : decode cX6_lower 33 = .ok (.aload_n 0, 1) := by decide +kernel
theorem dX6_lower_34 : decode cX6_lower 34 = .ok (.iload_n 1, 1) := by decide +kernel
theorem dX6_lower_35 : decode cX6_lower 35 = .ok (.iconst 1, 1) := by decide +kernel
theorem dX6_lower_36 : decode cX6_lower 36 = .ok (.isub, 1) := by decide +kernel
theorem dX6_lower_37 : decode cX6_lower 37 = .ok (.iconst 0, 1) := by decide +kernel
theorem dX6_lower_38 : decode cX6_lower 38 = .ok (.invokevirtual 91, 3) := by decide +kernel
theorem dX6_lower_41 : decode cX6_lower 41 = .ok (.aload_n 0, 1) := by decide +kernel
theorem dX6_lower_42 : decode cX6_lower 42 = .ok (.iload_n 1, 1) := by decide +kernel
theorem dX6_lower_43 : decode cX6_lower 43 = .ok (.aload_n 0, 1) := by decide +kernel
theorem dX6_lower_44 : decode cX6_lower 44 = .ok (.getfield 9, 3) := by decide +kernel
theorem dX6_lower_47 : decode cX6_lower 47 = .ok (.iconst 3, 1) := by decide +kernel
theorem dX6_lower_48 : decode cX6_lower 48 = .ok (.iload_n 1, 1) := by decide +kernel
theorem dX6_lower_49 : decode cX6_lower 49 = .ok (.iadd, 1) := by decide +kernel
theorem dX6_lower_50 : decode cX6_lower 50 = .ok (.iaload, 1) := by decide +kernel
theorem dX6_lower_51 : decode cX6_lower 51 = .ok (.iload_n 2, 1) := by decide +kernel
theorem dX6_lower_52 : decode cX6_lower 52 = .ok (.isub, 1) := by decide +kernel
theorem dX6_lower_53 : decode cX6_lower 53 = .ok (.invokevirtual 95, 3) := by decide +kernel
theorem dX6_lower_56 : decode cX6_lower 56 = .ok (.goto (-56), 3) := by decide +kernel
theorem dX6_lower_59 : decode cX6_lower 59 = .ok (.return_, 1) := by decide +kernel
theorem dX6_report_0 : decode cX6_report 0 = .ok (.aload_n 0, 1) := by decide +kernel
theorem dX6_report_1 : decode cX6_report 1 = .ok (.getfield 9, 3) := by decide +kernel
theorem dX6_report_4 : decode cX6_report 4 = .ok (.bipush 33, 2) := by decide +kernel
theorem dX6_report_6 : decode cX6_report 6 = .ok (.iaload, 1) := by decide +kernel
theorem dX6_report_7 : decode cX6_report 7 = .ok (.istore_n 3, 1) := by decide +kernel
theorem dX6_report_8 : decode cX6_report 8 = .ok (.iload_n 3, 1) := by decide +kernel
theorem dX6_report_9 : decode cX6_report 9 = .ok (.ifCond .le 49, 3) := by decide +kernel
theorem dX6_report_12 : decode cX6_report 12 = .ok (.aload_n 0, 1) := by decide +kernel
theorem dX6_report_13 : decode cX6_report 13 = .ok (.getfield 9, 3) := by decide +kernel
theorem dX6_report_16 : decode cX6_report 16 = .ok (.bipush 34, 2) := by decide +kernel
theorem dX6_report_18 : decode cX6_report 18 = .ok (.iload_n 3, 1) := by decide +kernel
theorem dX6_report_19 : decode cX6_report 19 = .ok (.iadd, 1) := by decide +kernel
theorem dX6_report_20 : decode cX6_report 20 = .ok (.aload_n 0, 1) := by decide +kernel
theorem dX6_report_21 : decode cX6_report 21 = .ok (.getfield 9, 3) := by decide +kernel
theorem dX6_report_24 : decode cX6_report 24 = .ok (.bipush 34, 2) := by decide +kernel
theorem dX6_report_26 : decode cX6_report 26 = .ok (.iload_n 3, 1) := by decide +kernel
theorem dX6_report_27 : decode cX6_report 27 = .ok (.iadd, 1) := by decide +kernel
theorem dX6_report_28 : decode cX6_report 28 = .ok (.iconst 1, 1) := by decide +kernel
theorem dX6_report_29 : decode cX6_report 29 = .ok (.isub, 1) := by decide +kernel
theorem dX6_report_30 : decode cX6_report 30 = .ok (.iaload, 1) := by decide +kernel
theorem dX6_report_31 : decode cX6_report 31 = .ok (.iastore, 1) := by decide +kernel
theorem dX6_report_32 : decode cX6_report 32 = .ok (.aload_n 0, 1) := by decide +kernel
theorem dX6_report_33 : decode cX6_report 33 = .ok (.getfield 9, 3) := by decide +kernel
theorem dX6_report_36 : decode cX6_report 36 = .ok (.bipush 42, 2) := by decide +kernel
theorem dX6_report_38 : decode cX6_report 38 = .ok (.iload_n 3, 1) := by decide +kernel
theorem dX6_report_39 : decode cX6_report 39 = .ok (.iadd, 1) := by decide +kernel
theorem dX6_report_40 : decode cX6_report 40 = .ok (.aload_n 0, 1) := by decide +kernel
theorem dX6_report_41 : decode cX6_report 41 = .ok (.getfield 9, 3) := by decide +kernel
theorem dX6_report_44 : decode cX6_report 44 = .ok (.bipush 42, 2) := by decide +kernel
theorem dX6_report_46 : decode cX6_report 46 = .ok (.iload_n 3, 1) := by decide +kernel
theorem dX6_report_47 : decode cX6_report 47 = .ok (.iadd, 1) := by decide +kernel
theorem dX6_report_48 : decode cX6_report 48 = .ok (.iconst 1, 1) := by decide +kernel
theorem dX6_report_49 : decode cX6_report 49 = .ok (.isub, 1) := by decide +kernel
theorem dX6_report_50 : decode cX6_report 50 = .ok (.iaload, 1) := by decide +kernel
theorem dX6_report_51 : decode cX6_report 51 = .ok (.iastore, 1) := by decide +kernel
theorem dX6_report_52 : decode cX6_report 52 = .ok (.iinc 3 (-1), 3) := by decide +kernel
theorem dX6_report_55 : decode cX6_report 55 = .ok (.goto (-47), 3) := by decide +kernel
theorem dX6_report_58 : decode cX6_report 58 = .ok (.aload_n 0, 1) := by decide +kernel
theorem dX6_report_59 : decode cX6_report 59 = .ok (.getfield 9, 3) := by decide +kernel
theorem dX6_report_62 : decode cX6_report 62 = .ok (.bipush 34, 2) := by decide +kernel
theorem dX6_report_64 : decode cX6_report 64 = .ok (.iload_n 1, 1) := by decide +kernel
theorem dX6_report_65 : decode cX6_report 65 = .ok (.iastore, 1) := by decide +kernel
theorem dX6_report_66 : decode cX6_report 66 = .ok (.aload_n 0, 1) := by decide +kernel
theorem dX6_report_67 : decode cX6_report 67 = .ok (.getfield 9, 3) := by decide +kernel
theorem dX6_report_70 : decode cX6_report 70 = .ok (.bipush 42, 2) := by decide +kernel
theorem dX6_report_72 : decode cX6_report 72 = .ok (.iload_n 2, 1) := by decide +kernel
theorem dX6_report_73 : decode cX6_report 73 = .ok (.iastore, 1) := by decide +kernel
theorem dX6_report_74 : decode cX6_report 74 = .ok (.aload_n 0, 1) := by decide +kernel
theorem dX6_report_75 : decode cX6_report 75 = .ok (.getfield 9, 3) := by decide +kernel
theorem dX6_report_78 : decode cX6_report 78 = .ok (.bipush 33, 2) := by decide +kernel
theorem dX6_report_80 : decode cX6_report 80 = .ok (.dup2, 1) := by decide +kernel
theorem dX6_report_81 : decode cX6_report 81 = .ok (.iaload, 1) := by decide +kernel
theorem dX6_report_82 : decode cX6_report 82 = .ok (.iconst 1, 1) := by decide +kernel
theorem dX6_report_83 : decode cX6_report 83 = .ok (.iadd, 1) := by decide +kernel
theorem dX6_report_84 : decode cX6_report 84 = .ok (.iastore, 1) := by decide +kernel
theorem dX6_report_85 : decode cX6_report 85 = .ok (.return_, 1) := by decide +kernel
set_option maxRecDepth 20000 in
theorem ggX6_fails_X6_report : GoodIn wsX6_fails wsX6_report := goodIn_r _ [5, 6, 7, 8, 9, 10, 11, 12, 13, 14, 15, 16, 17] (by decide +kernel) (by decide +kernel)
set_option maxRecDepth 20000 in
theorem gX6_fails_X6_report : GoodIn wsX6_fails (wsV RX6 98 RX6 yX6_report wsX6_report) := goodIn_app (goodIn_of _ (by decide +kernel)) ggX6_fails_X6_report
theorem dX6_fails_0 : decode cX6_fails 0 = .ok (.aload_n 0, 1) := by decide +kernel
theorem dX6_fails_1 : decode cX6_fails 1 = .ok (.iload_n 1, 1) := by decide +kernel
theorem dX6_fails_2 : decode cX6_fails 2 = .ok (.iconst (-1), 1) := by decide +kernel
theorem dX6_fails_3 : decode cX6_fails 3 = .ok (.invokevirtual 98, 3) := by decide +kernel
theorem dX6_fails_6 : decode cX6_fails 6 = .ok (.iconst 0, 1) := by decide +kernel
theorem dX6_fails_7 : decode cX6_fails 7 = .ok (.ireturn, 1) := by decide +kernel
set_option maxRecDepth 20000 in
theorem ggX6_failsAt_X6_report : GoodIn wsX6_failsAt wsX6_report := goodIn_r _ [5, 6, 7, 8, 9, 10, 11, 12, 13, 14, 15, 16, 17] (by decide +kernel) (by decide +kernel)
set_option maxRecDepth 20000 in
theorem gX6_failsAt_X6_report : GoodIn wsX6_failsAt (wsV RX6 98 RX6 yX6_report wsX6_report) := goodIn_app (goodIn_of _ (by decide +kernel)) ggX6_failsAt_X6_report
theorem dX6_failsAt_0 : decode cX6_failsAt 0 = .ok (.aload_n 0, 1) := by decide +kernel
theorem dX6_failsAt_1 : decode cX6_failsAt 1 = .ok (.bipush 7, 2) := by decide +kernel
theorem dX6_failsAt_3 : decode cX6_failsAt 3 = .ok (.iload_n 1, 1) := by decide +kernel
theorem dX6_failsAt_4 : decode cX6_failsAt 4 = .ok (.invokevirtual 98, 3) := by decide +kernel
theorem dX6_failsAt_7 : decode cX6_failsAt 7 = .ok (.iconst 0, 1) := by decide +kernel
theorem dX6_failsAt_8 : decode cX6_failsAt 8 = .ok (.ireturn, 1) := by decide +kernel
set_option maxRecDepth 20000 in
theorem ggX6_raise_X6_raise : GoodIn wsX6_raise wsX6_raise := goodIn_r _ [0, 1, 2, 3, 4, 5, 6, 7, 8, 9, 10, 11, 12, 13, 14, 15, 16, 17, 18, 19, 20, 21, 22, 23, 24, 25, 26, 27, 28, 29, 30, 31, 32, 33, 34, 35, 36, 37, 38, 39, 40, 41, 42, 43, 44, 45, 46, 47, 48, 49, 50, 51, 52, 53, 54, 55, 56, 57, 58, 59, 60, 61, 62, 63] (by decide +kernel) (by decide +kernel)
set_option maxRecDepth 20000 in
theorem gX6_raise_X6_raise : GoodIn wsX6_raise (wsV RX6 101 RX6 yX6_raise wsX6_raise) := goodIn_app (goodIn_of _ (by decide +kernel)) ggX6_raise_X6_raise
set_option maxRecDepth 20000 in
theorem ggX6_raise_X6_failsAt : GoodIn wsX6_raise wsX6_failsAt := goodIn_r _ [10, 11, 12, 13, 6, 14, 1, 53, 54, 55, 56, 57, 58, 59, 60, 61, 62, 63] (by decide +kernel) (by decide +kernel)
set_option maxRecDepth 20000 in
theorem gX6_raise_X6_failsAt : GoodIn wsX6_raise (wsV RX6 105 RX6 yX6_failsAt wsX6_failsAt) := goodIn_app (goodIn_of _ (by decide +kernel)) ggX6_raise_X6_failsAt
set_option maxRecDepth 20000 in
theorem ggX6_raise_X6_runFor : GoodIn wsX6_raise wsX6_runFor := goodIn_r _ [18, 1, 19, 20, 21, 6, 22, 2, 23, 24, 25, 26, 27, 28, 29, 30, 31, 32, 33, 34, 35, 36, 37, 38, 39, 40, 41, 42, 43, 44, 45, 46, 47, 48, 53, 54, 55, 56, 57, 58, 59, 60, 61, 62, 63] (by decide +kernel) (by decide +kernel)
set_option maxRecDepth 20000 in
theorem gX6_raise_X6_runFor : GoodIn wsX6_raise (wsV RX6 95 RX6 yX6_runFor wsX6_runFor) := goodIn_app (goodIn_of _ (by decide +kernel)) ggX6_raise_X6_runFor
set_option maxRecDepth 20000 in
theorem ggX6_raise_X6_fails : GoodIn wsX6_raise wsX6_fails := goodIn_r _ [52, 11, 12, 13, 6, 14, 1, 53, 54, 55, 56, 57, 58, 59, 60, 61, 62, 63] (by decide +kernel) (by decide +kernel)
set_option maxRecDepth 20000 in
theorem gX6_raise_X6_fails : GoodIn wsX6_raise (wsV RX6 108 RX6 yX6_fails wsX6_fails) := goodIn_app (goodIn_of _ (by decide +kernel)) ggX6_raise_X6_fails
theorem dX6_raise_0 : decode cX6_raise 0 = .ok (.aload_n 0, 1) := by decide +kernel
theorem dX6_raise_1 : decode cX6_raise 1 = .ok (.getfield 9, 3) := by decide +kernel
theorem dX6_raise_4 : decode cX6_raise 4 = .ok (.iconst 3, 1) := by decide +kernel
theorem dX6_raise_5 : decode cX6_raise 5 = .ok (.iload_n 1, 1) := by decide +kernel
theorem dX6_raise_6 : decode cX6_raise 6 = .ok (.iadd, 1) := by decide +kernel
theorem dX6_raise_7 : decode cX6_raise 7 = .ok (.iaload, 1) := by decide +kernel
theorem dX6_raise_8 : decode cX6_raise 8 = .ok (.iload_n 2, 1) := by decide +kernel
theorem dX6_raise_9 : decode cX6_raise 9 = .ok (.if_icmp .ge 101, 3) := by decide +kernel
theorem dX6_raise_12 : decode cX6_raise 12 = .ok (.iload_n 2, 1) := by decide +kernel
theorem dX6_raise_13 : decode cX6_raise 13 = .ok (.aload_n 0, 1) := by decide +kernel
theorem dX6_raise_14 : decode cX6_raise 14 = .ok (.getfield 9, 3) := by decide +kernel
theorem dX6_raise_17 : decode cX6_raise 17 = .ok (.iconst 3, 1) := by decide +kernel
theorem dX6_raise_18 : decode cX6_raise 18 = .ok (.iload_n 1, 1) := by decide +kernel
theorem dX6_raise_19 : decode cX6_raise 19 = .ok (.iadd, 1) := by decide +kernel
theorem dX6_raise_20 : decode cX6_raise 20 = .ok (.iaload, 1) := by decide +kernel
theorem dX6_raise_21 : decode cX6_raise 21 = .ok (.isub, 1) := by decide +kernel
theorem dX6_raise_22 : decode cX6_raise 22 = .ok (.istore_n 3, 1) := by decide +kernel
theorem dX6_raise_23 : decode cX6_raise 23 = .ok (.iload_n 1, 1) := by decide +kernel
theorem dX6_raise_24 : decode cX6_raise 24 = .ok (.aload_n 0, 1) := by decide +kernel
theorem dX6_raise_25 : decode cX6_raise 25 = .ok (.getfield 26, 3) := by decide +kernel
theorem dX6_raise_28 : decode cX6_raise 28 = .ok (.iconst 1, 1) := by decide +kernel
theorem dX6_raise_29 : decode cX6_raise 29 = .ok (.isub, 1) := by decide +kernel
theorem dX6_raise_30 : decode cX6_raise 30 = .ok (.if_icmp .ge 34, 3) := by decide +kernel
theorem dX6_raise_33 : decode cX6_raise 33 = .ok (.aload_n 0, 1) := by decide +kernel
theorem dX6_raise_34 : decode cX6_raise 34 = .ok (.getfield 9, 3) := by decide +kernel
theorem dX6_raise_37 : decode cX6_raise 37 = .ok (.iconst 3, 1) := by decide +kernel
theorem dX6_raise_38 : decode cX6_raise 38 = .ok (.iload_n 1, 1) := by decide +kernel
theorem dX6_raise_39 : decode cX6_raise 39 = .ok (.iadd, 1) := by decide +kernel
theorem dX6_raise_40 : decode cX6_raise 40 = .ok (.iconst 1, 1) := by decide +kernel
theorem dX6_raise_41 : decode cX6_raise 41 = .ok (.iadd, 1) := by decide +kernel
theorem dX6_raise_42 : decode cX6_raise 42 = .ok (.iaload, 1) := by decide +kernel
theorem dX6_raise_43 : decode cX6_raise 43 = .ok (.iload_n 3, 1) := by decide +kernel
theorem dX6_raise_44 : decode cX6_raise 44 = .ok (.if_icmp .ge 20, 3) := by decide +kernel
theorem dX6_raise_47 : decode cX6_raise 47 = .ok (.aload_n 0, 1) := by decide +kernel
theorem dX6_raise_48 : decode cX6_raise 48 = .ok (.iload_n 1, 1) := by decide +kernel
theorem dX6_raise_49 : decode cX6_raise 49 = .ok (.iconst 1, 1) := by decide +kernel
theorem dX6_raise_50 : decode cX6_raise 50 = .ok (.iadd, 1) := by decide +kernel
theorem dX6_raise_51 : decode cX6_raise 51 = .ok (.iload_n 3, 1) := by decide +kernel
theorem dX6_raise_52 : decode cX6_raise 52 = .ok (.invokevirtual 101, 3) := by decide +kernel
theorem dX6_raise_55 : decode cX6_raise 55 = .ok (.ifCond .ne 9, 3) := by decide +kernel
theorem dX6_raise_58 : decode cX6_raise 58 = .ok (.aload_n 0, 1) := by decide +kernel
theorem dX6_raise_59 : decode cX6_raise 59 = .ok (.iload_n 1, 1) := by decide +kernel
theorem dX6_raise_60 : decode cX6_raise 60 = .ok (.invokevirtual 105, 3) := by decide +kernel
theorem dX6_raise_63 : decode cX6_raise 63 = .ok (.ireturn, 1) := by decide +kernel
theorem dX6_raise_64 : decode cX6_raise 64 = .ok (.aload_n 0, 1) := by decide +kernel
theorem dX6_raise_65 : decode cX6_raise 65 = .ok (.iload_n 1, 1) := by decide +kernel
theorem dX6_raise_66 : decode cX6_raise 66 = .ok (.iconst 1, 1) := by decide +kernel
theorem dX6_raise_67 : decode cX6_raise 67 = .ok (.iadd, 1) := by decide +kernel
theorem dX6_raise_68 : decode cX6_raise 68 = .ok (.iload_n 3, 1) := by decide +kernel
theorem dX6_raise_69 : decode cX6_raise 69 = .ok (.invokevirtual 95, 3) := by decide +kernel
theorem dX6_raise_72 : decode cX6_raise 72 = .ok (.iload_n 1, 1) := by decide +kernel
theorem dX6_raise_73 : decode cX6_raise 73 = .ok (.aload_n 0, 1) := by decide +kernel
theorem dX6_raise_74 : decode cX6_raise 74 = .ok (.getfield 26, 3) := by decide +kernel
theorem dX6_raise_77 : decode cX6_raise 77 = .ok (.iconst 1, 1) := by decide +kernel
theorem dX6_raise_78 : decode cX6_raise 78 = .ok (.isub, 1) := by decide +kernel
theorem dX6_raise_79 : decode cX6_raise 79 = .ok (.if_icmp .ne 28, 3) := by decide +kernel
theorem dX6_raise_82 : decode cX6_raise 82 = .ok (.aload_n 0, 1) := by decide +kernel
theorem dX6_raise_83 : decode cX6_raise 83 = .ok (.getfield 9, 3) := by decide +kernel
theorem dX6_raise_86 : decode cX6_raise 86 = .ok (.iconst 3, 1) := by decide +kernel
theorem dX6_raise_87 : decode cX6_raise 87 = .ok (.iload_n 1, 1) := by decide +kernel
theorem dX6_raise_88 : decode cX6_raise 88 = .ok (.iadd, 1) := by decide +kernel
theorem dX6_raise_89 : decode cX6_raise 89 = .ok (.iaload, 1) := by decide +kernel
theorem dX6_raise_90 : decode cX6_raise 90 = .ok (.iload_n 2, 1) := by decide +kernel
theorem dX6_raise_91 : decode cX6_raise 91 = .ok (.if_icmp .ge 16, 3) := by decide +kernel
theorem dX6_raise_94 : decode cX6_raise 94 = .ok (.aload_n 0, 1) := by decide +kernel
theorem dX6_raise_95 : decode cX6_raise 95 = .ok (.iconst 5, 1) := by decide +kernel
theorem dX6_raise_96 : decode cX6_raise 96 = .ok (.invokevirtual 108, 3) := by decide +kernel
theorem dX6_raise_99 : decode cX6_raise 99 = .ok (.istore 4, 2) := by decide +kernel
theorem dX6_raise_101 : decode cX6_raise 101 = .ok (.aload_n 0, 1) := by decide +kernel
theorem dX6_raise_102 : decode cX6_raise 102 = .ok (.iload_n 1, 1) := by decide +kernel
theorem dX6_raise_103 : decode cX6_raise 103 = .ok (.invokevirtual 105, 3) := by decide +kernel
theorem dX6_raise_106 : decode cX6_raise 106 = .ok (.ireturn, 1) := by decide +kernel
theorem dX6_raise_107 : decode cX6_raise 107 = .ok (.goto (-107), 3) := by decide +kernel
theorem dX6_raise_110 : decode cX6_raise 110 = .ok (.iconst 1, 1) := by decide +kernel
theorem dX6_raise_111 : decode cX6_raise 111 = .ok (.ireturn, 1) := by decide +kernel
set_option maxRecDepth 20000 in
theorem ggX6_runToPound_X6_head : GoodIn wsX6_runToPound wsX6_head := goodIn_r _ [7, 1, 8, 9, 10, 6, 11, 12, 13, 14, 15, 16, 2, 17, 18, 19, 20, 21, 22, 23, 24, 25, 30, 31, 32, 33, 34, 35, 36, 37, 38, 39, 40] (by decide +kernel) (by decide +kernel)
set_option maxRecDepth 20000 in
theorem gX6_runToPound_X6_head : GoodIn wsX6_runToPound (wsV RX6 82 RX6 yX6_head wsX6_head) := goodIn_app (goodIn_of _ (by decide +kernel)) ggX6_runToPound_X6_head
set_option maxRecDepth 20000 in
theorem ggX6_runToPound_X6_flowFromPound : GoodIn wsX6_runToPound wsX6_flowFromPound := goodIn_r _ [29, 1, 2, 8, 9, 10, 6, 11, 12, 13, 14, 15, 16, 17, 18, 19, 20, 21, 22, 23, 24, 25, 30, 31, 32, 33, 34, 35, 36, 37, 38, 39, 40] (by decide +kernel) (by decide +kernel)
set_option maxRecDepth 20000 in
theorem gX6_runToPound_X6_flowFromPound : GoodIn wsX6_runToPound (wsV RX6 85 RX6 yX6_flowFromPound wsX6_flowFromPound) := goodIn_app (goodIn_of _ (by decide +kernel)) ggX6_runToPound_X6_flowFromPound
theorem dX6_runToPound_0 : decode cX6_runToPound 0 = .ok (.aload_n 0, 1) := by decide +kernel
theorem dX6_runToPound_1 : decode cX6_runToPound 1 = .ok (.aload_n 0, 1) := by decide +kernel
theorem dX6_runToPound_2 : decode cX6_runToPound 2 = .ok (.getfield 26, 3) := by decide +kernel
theorem dX6_runToPound_5 : decode cX6_runToPound 5 = .ok (.invokevirtual 82, 3) := by decide +kernel
theorem dX6_runToPound_8 : decode cX6_runToPound 8 = .ok (.ifCond .le 23, 3) := by decide +kernel
theorem dX6_runToPound_11 : decode cX6_runToPound 11 = .ok (.aload_n 0, 1) := by decide +kernel
theorem dX6_runToPound_12 : decode cX6_runToPound 12 = .ok (.bipush 20, 2) := by decide +kernel
theorem dX6_runToPound_14 : decode cX6_runToPound 14 = .ok (.invokevirtual 85, 3) := by decide +kernel
theorem dX6_runToPound_17 : decode cX6_runToPound 17 = .ok (.istore_n 1, 1) := by decide +kernel
theorem dX6_runToPound_18 : decode cX6_runToPound 18 = .ok (.aload_n 0, 1) := by decide +kernel
theorem dX6_runToPound_19 : decode cX6_runToPound 19 = .ok (.getfield 9, 3) := by decide +kernel
theorem dX6_runToPound_22 : decode cX6_runToPound 22 = .ok (.iconst 2, 1) := by decide +kernel
theorem dX6_runToPound_23 : decode cX6_runToPound 23 = .ok (.dup2, 1) := by decide +kernel
theorem dX6_runToPound_24 : decode cX6_runToPound 24 = .ok (.iaload, 1) := by decide +kernel
theorem dX6_runToPound_25 : decode cX6_runToPound 25 = .ok (.iconst 1, 1) := by decide +kernel
theorem dX6_runToPound_26 : decode cX6_runToPound 26 = .ok (.iadd, 1) := by decide +kernel
theorem dX6_runToPound_27 : decode cX6_runToPound 27 = .ok (.iastore, 1) := by decide +kernel
theorem dX6_runToPound_28 : decode cX6_runToPound 28 = .ok (.goto (-28), 3) := by decide +kernel
theorem dX6_runToPound_31 : decode cX6_runToPound 31 = .ok (.return_, 1) := by decide +kernel
set_option maxRecDepth 20000 in
theorem ggX6_levelHighest_X6_head : GoodIn wsX6_levelHighest wsX6_head := goodIn_r _ [7, 2, 8, 9, 10, 6, 11, 1, 12, 13, 14, 15, 16, 17, 18, 19, 20, 21, 22, 23, 24, 25, 58, 59, 60, 61, 62, 63, 64, 65, 66, 67, 68] (by decide +kernel) (by decide +kernel)
set_option maxRecDepth 20000 in
theorem gX6_levelHighest_X6_head : GoodIn wsX6_levelHighest (wsV RX6 82 RX6 yX6_head wsX6_head) := goodIn_app (goodIn_of _ (by decide +kernel)) ggX6_levelHighest_X6_head
set_option maxRecDepth 20000 in
theorem ggX6_levelHighest_X6_pound : GoodIn wsX6_levelHighest wsX6_pound := goodIn_r _ [11, 1, 2, 12, 13, 14, 6, 15, 16, 17, 18, 19, 20, 21, 58, 59, 60, 61, 62, 63, 64, 65, 66, 67, 68] (by decide +kernel) (by decide +kernel)
set_option maxRecDepth 20000 in
theorem gX6_levelHighest_X6_pound : GoodIn wsX6_levelHighest (wsV RX6 65 RX6 yX6_pound wsX6_pound) := goodIn_app (goodIn_of _ (by decide +kernel)) ggX6_levelHighest_X6_pound
set_option maxRecDepth 20000 in
theorem ggX6_levelHighest_X6_fails : GoodIn wsX6_levelHighest wsX6_fails := goodIn_r _ [29, 30, 31, 32, 6, 33, 16, 58, 59, 60, 61, 62, 63, 64, 65, 66, 67, 68] (by decide +kernel) (by decide +kernel)
set_option maxRecDepth 20000 in
theorem gX6_levelHighest_X6_fails : GoodIn wsX6_levelHighest (wsV RX6 108 RX6 yX6_fails wsX6_fails) := goodIn_app (goodIn_of _ (by decide +kernel)) ggX6_levelHighest_X6_fails
set_option maxRecDepth 20000 in
theorem ggX6_levelHighest_X6_runToPound : GoodIn wsX6_levelHighest wsX6_runToPound := goodIn_r _ [37, 2, 16, 3, 4, 5, 6, 7, 8, 9, 10, 11, 1, 12, 13, 14, 15, 17, 18, 19, 20, 21, 22, 23, 24, 25, 38, 39, 40, 41, 58, 59, 60, 61, 62, 63, 64, 65, 66, 67, 68] (by decide +kernel) (by decide +kernel)
set_option maxRecDepth 20000 in
theorem gX6_levelHighest_X6_runToPound : GoodIn wsX6_levelHighest (wsV RX6 111 RX6 yX6_runToPound wsX6_runToPound) := goodIn_app (goodIn_of _ (by decide +kernel)) ggX6_levelHighest_X6_runToPound
set_option maxRecDepth 20000 in
theorem ggX6_levelHighest_X6_lower : GoodIn wsX6_levelHighest wsX6_lower := goodIn_r _ [45, 16, 1, 42, 43, 44, 6, 46, 47, 48, 49, 50, 51, 52, 53, 2, 54, 55, 56, 57, 38, 39, 40, 41, 8, 9, 10, 11, 12, 13, 14, 15, 17, 18, 19, 20, 21, 22, 23, 24, 25, 58, 59, 60, 61, 62, 63, 64, 65, 66, 67, 68] (by decide +kernel) (by decide +kernel)
set_option maxRecDepth 20000 in
theorem gX6_levelHighest_X6_lower : GoodIn wsX6_levelHighest (wsV RX6 91 RX6 yX6_lower wsX6_lower) := goodIn_app (goodIn_of _ (by decide +kernel)) ggX6_levelHighest_X6_lower
theorem dX6_levelHighest_0 : decode cX6_levelHighest 0 = .ok (.aload_n 0, 1) := by decide +kernel
theorem dX6_levelHighest_1 : decode cX6_levelHighest 1 = .ok (.getfield 30, 3) := by decide +kernel
theorem dX6_levelHighest_4 : decode cX6_levelHighest 4 = .ok (.aload_n 0, 1) := by decide +kernel
theorem dX6_levelHighest_5 : decode cX6_levelHighest 5 = .ok (.getfield 26, 3) := by decide +kernel
theorem dX6_levelHighest_8 : decode cX6_levelHighest 8 = .ok (.iconst 1, 1) := by decide +kernel
theorem dX6_levelHighest_9 : decode cX6_levelHighest 9 = .ok (.isub, 1) := by decide +kernel
theorem dX6_levelHighest_10 : decode cX6_levelHighest 10 = .ok (.imul, 1) := by decide +kernel
theorem dX6_levelHighest_11 : decode cX6_levelHighest 11 = .ok (.istore_n 1, 1) := by decide +kernel
theorem dX6_levelHighest_12 : decode cX6_levelHighest 12 = .ok (.aload_n 0, 1) := by decide +kernel
theorem dX6_levelHighest_13 : decode cX6_levelHighest 13 = .ok (.aload_n 0, 1) := by decide +kernel
theorem dX6_levelHighest_14 : decode cX6_levelHighest 14 = .ok (.getfield 26, 3) := by decide +kernel
theorem dX6_levelHighest_17 : decode cX6_levelHighest 17 = .ok (.invokevirtual 82, 3) := by decide +kernel
theorem dX6_levelHighest_20 : decode cX6_levelHighest 20 = .ok (.ifCond .eq 54, 3) := by decide +kernel
theorem dX6_levelHighest_23 : decode cX6_levelHighest 23 = .ok (.aload_n 0, 1) := by decide +kernel
theorem dX6_levelHighest_24 : decode cX6_levelHighest 24 = .ok (.invokevirtual 65, 3) := by decide +kernel
theorem dX6_levelHighest_27 : decode cX6_levelHighest 27 = .ok (.iload_n 1, 1) := by decide +kernel
theorem dX6_levelHighest_28 : decode cX6_levelHighest 28 = .ok (.if_icmp .ge 9, 3) := by decide +kernel
theorem dX6_levelHighest_31 : decode cX6_levelHighest 31 = .ok (.aload_n 0, 1) := by decide +kernel
theorem dX6_levelHighest_32 : decode cX6_levelHighest 32 = .ok (.iconst 5, 1) := by decide +kernel
theorem dX6_levelHighest_33 : decode cX6_levelHighest 33 = .ok (.invokevirtual 108, 3) := by decide +kernel
theorem dX6_levelHighest_36 : decode cX6_levelHighest 36 = .ok (.ireturn, 1) := by decide +kernel
theorem dX6_levelHighest_37 : decode cX6_levelHighest 37 = .ok (.aload_n 0, 1) := by decide +kernel
theorem dX6_levelHighest_38 : decode cX6_levelHighest 38 = .ok (.aload_n 0, 1) := by decide +kernel
theorem dX6_levelHighest_39 : decode cX6_levelHighest 39 = .ok (.getfield 26, 3) := by decide +kernel
theorem dX6_levelHighest_42 : decode cX6_levelHighest 42 = .ok (.invokevirtual 82, 3) := by decide +kernel
theorem dX6_levelHighest_45 : decode cX6_levelHighest 45 = .ok (.ifCond .le 10, 3) := by decide +kernel
theorem dX6_levelHighest_48 : decode cX6_levelHighest 48 = .ok (.aload_n 0, 1) := by decide +kernel
theorem dX6_levelHighest_49 : decode cX6_levelHighest 49 = .ok (.invokevirtual 111, 3) := by decide +kernel
theorem dX6_levelHighest_52 : decode cX6_levelHighest 52 = .ok (.goto (-40), 3) := by decide +kernel
theorem dX6_levelHighest_55 : decode cX6_levelHighest 55 = .ok (.aload_n 0, 1) := by decide +kernel
theorem dX6_levelHighest_56 : decode cX6_levelHighest 56 = .ok (.aload_n 0, 1) := by decide +kernel
theorem dX6_levelHighest_57 : decode cX6_levelHighest 57 = .ok (.getfield 26, 3) := by decide +kernel
theorem dX6_levelHighest_60 : decode cX6_levelHighest 60 = .ok (.iconst 1, 1) := by decide +kernel
theorem dX6_levelHighest_61 : decode cX6_levelHighest 61 = .ok (.isub, 1) := by decide +kernel
theorem dX6_levelHighest_62 : decode cX6_levelHighest 62 = .ok (.aload_n 0, 1) := by decide +kernel
theorem dX6_levelHighest_63 : decode cX6_levelHighest 63 = .ok (.invokevirtual 65, 3) := by decide +kernel
theorem dX6_levelHighest_66 : decode cX6_levelHighest 66 = .ok (.iload_n 1, 1) := by decide +kernel
theorem dX6_levelHighest_67 : decode cX6_levelHighest 67 = .ok (.isub, 1) := by decide +kernel
theorem dX6_levelHighest_68 : decode cX6_levelHighest 68 = .ok (.invokevirtual 91, 3) := by decide +kernel
theorem dX6_levelHighest_71 : decode cX6_levelHighest 71 = .ok (.goto (-59), 3) := by decide +kernel
theorem dX6_levelHighest_74 : decode cX6_levelHighest 74 = .ok (.iconst 1, 1) := by decide +kernel
theorem dX6_levelHighest_75 : decode cX6_levelHighest 75 = .ok (.ireturn, 1) := by decide +kernel
set_option maxRecDepth 20000 in
theorem ggX6_levelGate_X6_levelHighest : GoodIn wsX6_levelGate wsX6_levelHighest := goodIn_r _ [7, 2, 1, 8, 9, 10, 6, 11, 12, 13, 14, 15, 16, 17, 18, 19, 20, 21, 22, 23, 24, 25, 26, 27, 28, 29, 30, 31, 32, 33, 34, 35, 36, 37, 38, 39, 40, 41, 42, 43, 44, 45, 46, 47, 48, 49, 50, 51, 52, 53, 54, 55, 56, 57, 58, 59, 60, 61, 70, 71, 72, 73, 74, 75, 76, 77, 78, 79, 80] (by decide +kernel) (by decide +kernel)
set_option maxRecDepth 20000 in
theorem gX6_levelGate_X6_levelHighest : GoodIn wsX6_levelGate (wsV RX6 114 RX6 yX6_levelHighest wsX6_levelHighest) := goodIn_app (goodIn_of _ (by decide +kernel)) ggX6_levelGate_X6_levelHighest
set_option maxRecDepth 20000 in
theorem ggX6_levelGate_X6_lower : GoodIn wsX6_levelGate wsX6_lower := goodIn_r _ [49, 20, 2, 46, 47, 48, 6, 50, 51, 52, 53, 54, 55, 56, 57, 1, 58, 59, 60, 61, 42, 43, 44, 45, 12, 13, 14, 15, 16, 17, 18, 19, 21, 22, 23, 24, 25, 26, 27, 28, 29, 70, 71, 72, 73, 74, 75, 76, 77, 78, 79, 80] (by decide +kernel) (by decide +kernel)
set_option maxRecDepth 20000 in
theorem gX6_levelGate_X6_lower : GoodIn wsX6_levelGate (wsV RX6 91 RX6 yX6_lower wsX6_lower) := goodIn_app (goodIn_of _ (by decide +kernel)) ggX6_levelGate_X6_lower
set_option maxRecDepth 20000 in
theorem ggX6_levelGate_X6_raise : GoodIn wsX6_levelGate wsX6_raise := goodIn_r _ [65, 20, 1, 62, 63, 64, 6, 66, 67, 68, 69, 34, 35, 36, 37, 50, 51, 52, 53, 54, 55, 56, 57, 58, 59, 60, 61, 2, 42, 43, 44, 45, 12, 13, 14, 15, 16, 17, 18, 19, 21, 22, 23, 24, 25, 26, 27, 28, 29, 30, 31, 32, 33, 70, 71, 72, 73, 74, 75, 76, 77, 78, 79, 80] (by decide +kernel) (by decide +kernel)
set_option maxRecDepth 20000 in
theorem gX6_levelGate_X6_raise : GoodIn wsX6_levelGate (wsV RX6 101 RX6 yX6_raise wsX6_raise) := goodIn_app (goodIn_of _ (by decide +kernel)) ggX6_levelGate_X6_raise
theorem dX6_levelGate_0 : decode cX6_levelGate 0 = .ok (.iload_n 1, 1) := by decide +kernel
theorem dX6_levelGate_1 : decode cX6_levelGate 1 = .ok (.aload_n 0, 1) := by decide +kernel
theorem dX6_levelGate_2 : decode cX6_levelGate 2 = .ok (.getfield 26, 3) := by decide +kernel
theorem dX6_levelGate_5 : decode cX6_levelGate 5 = .ok (.if_icmp .ne 8, 3) := by decide +kernel
theorem dX6_levelGate_8 : decode cX6_levelGate 8 = .ok (.aload_n 0, 1) := by decide +kernel
theorem dX6_levelGate_9 : decode cX6_levelGate 9 = .ok (.invokevirtual 114, 3) := by decide +kernel
theorem dX6_levelGate_12 : decode cX6_levelGate 12 = .ok (.ireturn, 1) := by decide +kernel
theorem dX6_levelGate_13 : decode cX6_levelGate 13 = .ok (.aload_n 0, 1) := by decide +kernel
theorem dX6_levelGate_14 : decode cX6_levelGate 14 = .ok (.iload_n 1, 1) := by decide +kernel
theorem dX6_levelGate_15 : decode cX6_levelGate 15 = .ok (.iconst 0, 1) := by decide +kernel
theorem dX6_levelGate_16 : decode cX6_levelGate 16 = .ok (.invokevirtual 91, 3) := by decide +kernel
theorem dX6_levelGate_19 : decode cX6_levelGate 19 = .ok (.iload_n 1, 1) := by decide +kernel
theorem dX6_levelGate_20 : decode cX6_levelGate 20 = .ok (.ifCond .eq 17, 3) := by decide +kernel
theorem dX6_levelGate_23 : decode cX6_levelGate 23 = .ok (.aload_n 0, 1) := by decide +kernel
theorem dX6_levelGate_24 : decode cX6_levelGate 24 = .ok (.iload_n 1, 1) := by decide +kernel
theorem dX6_levelGate_25 : decode cX6_levelGate 25 = .ok (.iconst 1, 1) := by decide +kernel
theorem dX6_levelGate_26 : decode cX6_levelGate 26 = .ok (.isub, 1) := by decide +kernel
theorem dX6_levelGate_27 : decode cX6_levelGate 27 = .ok (.aload_n 0, 1) := by decide +kernel
theorem dX6_levelGate_28 : decode cX6_levelGate 28 = .ok (.getfield 30, 3) := by decide +kernel
theorem dX6_levelGate_31 : decode cX6_levelGate 31 = .ok (.invokevirtual 101, 3) := by decide +kernel
theorem dX6_levelGate_34 : decode cX6_levelGate 34 = .ok (.ifCond .eq 7, 3) := by decide +kernel
theorem dX6_levelGate_37 : decode cX6_levelGate 37 = .ok (.iconst 1, 1) := by decide +kernel
theorem dX6_levelGate_38 : decode cX6_levelGate 38 = .ok (.goto 4, 3) := by decide +kernel
theorem dX6_levelGate_41 : decode cX6_levelGate 41 = .ok (.iconst 0, 1) := by decide +kernel
theorem dX6_levelGate_42 : decode cX6_levelGate 42 = .ok (.ireturn, 1) := by decide +kernel
theorem dX6_lengthIn_0 : decode cX6_lengthIn 0 = .ok (.iconst 0, 1) := by decide +kernel
theorem dX6_lengthIn_1 : decode cX6_lengthIn 1 = .ok (.istore_n 2, 1) := by decide +kernel
theorem dX6_lengthIn_2 : decode cX6_lengthIn 2 = .ok (.iconst 0, 1) := by decide +kernel
theorem dX6_lengthIn_3 : decode cX6_lengthIn 3 = .ok (.istore_n 3, 1) := by decide +kernel
theorem dX6_lengthIn_4 : decode cX6_lengthIn 4 = .ok (.iload_n 3, 1) := by decide +kernel
theorem dX6_lengthIn_5 : decode cX6_lengthIn 5 = .ok (.aload_n 0, 1) := by decide +kernel
theorem dX6_lengthIn_6 : decode cX6_lengthIn 6 = .ok (.getfield 56, 3) := by decide +kernel
theorem dX6_lengthIn_9 : decode cX6_lengthIn 9 = .ok (.if_icmp .ge 37, 3) := by decide +kernel
theorem dX6_lengthIn_12 : decode cX6_lengthIn 12 = .ok (.iload_n 2, 1) := by decide +kernel
theorem dX6_lengthIn_13 : decode cX6_lengthIn 13 = .ok (.aload_n 0, 1) := by decide +kernel
theorem dX6_lengthIn_14 : decode cX6_lengthIn 14 = .ok (.getfield 9, 3) := by decide +kernel
theorem dX6_lengthIn_17 : decode cX6_lengthIn 17 = .ok (.bipush 23, 2) := by decide +kernel
theorem dX6_lengthIn_19 : decode cX6_lengthIn 19 = .ok (.iload_n 3, 1) := by decide +kernel
theorem dX6_lengthIn_20 : decode cX6_lengthIn 20 = .ok (.iadd, 1) := by decide +kernel
theorem dX6_lengthIn_21 : decode cX6_lengthIn 21 = .ok (.iaload, 1) := by decide +kernel
theorem dX6_lengthIn_22 : decode cX6_lengthIn 22 = .ok (.iload_n 1, 1) := by decide +kernel
theorem dX6_lengthIn_23 : decode cX6_lengthIn 23 = .ok (.iconst 1, 1) := by decide +kernel
theorem dX6_lengthIn_24 : decode cX6_lengthIn 24 = .ok (.iadd, 1) := by decide +kernel
theorem dX6_lengthIn_25 : decode cX6_lengthIn 25 = .ok (.if_icmp .ne 12, 3) := by decide +kernel
theorem dX6_lengthIn_28 : decode cX6_lengthIn 28 = .ok (.aload_n 0, 1) := by decide +kernel
theorem dX6_lengthIn_29 : decode cX6_lengthIn 29 = .ok (.getfield 16, 3) := by decide +kernel
theorem dX6_lengthIn_32 : decode cX6_lengthIn 32 = .ok (.iload_n 3, 1) := by decide +kernel
theorem dX6_lengthIn_33 : decode cX6_lengthIn 33 = .ok (.iaload, 1) := by decide +kernel
theorem dX6_lengthIn_34 : decode cX6_lengthIn 34 = .ok (.goto 4, 3) := by decide +kernel
theorem dX6_lengthIn_37 : decode cX6_lengthIn 37 = .ok (.iconst 0, 1) := by decide +kernel
theorem dX6_lengthIn_38 : decode cX6_lengthIn 38 = .ok (.iadd, 1) := by decide +kernel
theorem dX6_lengthIn_39 : decode cX6_lengthIn 39 = .ok (.istore_n 2, 1) := by decide +kernel
theorem dX6_lengthIn_40 : decode cX6_lengthIn 40 = .ok (.iinc 3 1, 3) := by decide +kernel
theorem dX6_lengthIn_43 : decode cX6_lengthIn 43 = .ok (.goto (-39), 3) := by decide +kernel
theorem dX6_lengthIn_46 : decode cX6_lengthIn 46 = .ok (.iload_n 2, 1) := by decide +kernel
theorem dX6_lengthIn_47 : decode cX6_lengthIn 47 = .ok (.ireturn, 1) := by decide +kernel
theorem dX6_gateOf_0 : decode cX6_gateOf 0 = .ok (.iload_n 2, 1) := by decide +kernel
theorem dX6_gateOf_1 : decode cX6_gateOf 1 = .ok (.ifCond .eq 15, 3) := by decide +kernel
theorem dX6_gateOf_4 : decode cX6_gateOf 4 = .ok (.aload_n 0, 1) := by decide +kernel
theorem dX6_gateOf_5 : decode cX6_gateOf 5 = .ok (.getfield 9, 3) := by decide +kernel
theorem dX6_gateOf_8 : decode cX6_gateOf 8 = .ok (.bipush 23, 2) := by decide +kernel
theorem dX6_gateOf_10 : decode cX6_gateOf 10 = .ok (.iload_n 1, 1) := by decide +kernel
theorem dX6_gateOf_11 : decode cX6_gateOf 11 = .ok (.iadd, 1) := by decide +kernel
theorem dX6_gateOf_12 : decode cX6_gateOf 12 = .ok (.iaload, 1) := by decide +kernel
theorem dX6_gateOf_13 : decode cX6_gateOf 13 = .ok (.goto 14, 3) := by decide +kernel
theorem dX6_gateOf_16 : decode cX6_gateOf 16 = .ok (.aload_n 0, 1) := by decide +kernel
theorem dX6_gateOf_17 : decode cX6_gateOf 17 = .ok (.getfield 9, 3) := by decide +kernel
theorem dX6_gateOf_20 : decode cX6_gateOf 20 = .ok (.bipush 23, 2) := by decide +kernel
theorem dX6_gateOf_22 : decode cX6_gateOf 22 = .ok (.iload_n 1, 1) := by decide +kernel
theorem dX6_gateOf_23 : decode cX6_gateOf 23 = .ok (.iadd, 1) := by decide +kernel
theorem dX6_gateOf_24 : decode cX6_gateOf 24 = .ok (.iaload, 1) := by decide +kernel
theorem dX6_gateOf_25 : decode cX6_gateOf 25 = .ok (.iconst 1, 1) := by decide +kernel
theorem dX6_gateOf_26 : decode cX6_gateOf 26 = .ok (.isub, 1) := by decide +kernel
theorem dX6_gateOf_27 : decode cX6_gateOf 27 = .ok (.ireturn, 1) := by decide +kernel
theorem dX6_target_0 : decode cX6_target 0 = .ok (.aload_n 0, 1) := by decide +kernel
theorem dX6_target_1 : decode cX6_target 1 = .ok (.getfield 9, 3) := by decide +kernel
theorem dX6_target_4 : decode cX6_target 4 = .ok (.bipush 23, 2) := by decide +kernel
theorem dX6_target_6 : decode cX6_target 6 = .ok (.iload_n 1, 1) := by decide +kernel
theorem dX6_target_7 : decode cX6_target 7 = .ok (.iadd, 1) := by decide +kernel
theorem dX6_target_8 : decode cX6_target 8 = .ok (.iaload, 1) := by decide +kernel
theorem dX6_target_9 : decode cX6_target 9 = .ok (.iload_n 2, 1) := by decide +kernel
theorem dX6_target_10 : decode cX6_target 10 = .ok (.ifCond .eq 7, 3) := by decide +kernel
theorem dX6_target_13 : decode cX6_target 13 = .ok (.iconst 1, 1) := by decide +kernel
theorem dX6_target_14 : decode cX6_target 14 = .ok (.goto 4, 3) := by decide +kernel
theorem dX6_target_17 : decode cX6_target 17 = .ok (.iconst (-1), 1) := by decide +kernel
theorem dX6_target_18 : decode cX6_target 18 = .ok (.iadd, 1) := by decide +kernel
theorem dX6_target_19 : decode cX6_target 19 = .ok (.ireturn, 1) := by decide +kernel
set_option maxRecDepth 20000 in
theorem ggX6_obstacleThere_X6_isWithin : GoodIn wsX6_obstacleThere wsX6_isWithin := goodIn_r _ [7] (by decide +kernel) (by decide +kernel)
set_option maxRecDepth 20000 in
theorem gX6_obstacleThere_X6_isWithin : GoodIn wsX6_obstacleThere (va_wsS RX6 52 yX6_isWithin wsX6_isWithin) := goodIn_app (goodIn_of _ (by decide +kernel)) ggX6_obstacleThere_X6_isWithin
set_option maxRecDepth 20000 in
theorem ggX6_obstacleThere_X6_lengthIn : GoodIn wsX6_obstacleThere wsX6_lengthIn := goodIn_r _ [11, 12, 13, 2, 23, 24, 25, 26, 27, 28, 29, 30, 31, 32, 33] (by decide +kernel) (by decide +kernel)
set_option maxRecDepth 20000 in
theorem gX6_obstacleThere_X6_lengthIn : GoodIn wsX6_obstacleThere (wsV RX6 118 RX6 yX6_lengthIn wsX6_lengthIn) := goodIn_app (goodIn_of _ (by decide +kernel)) ggX6_obstacleThere_X6_lengthIn
set_option maxRecDepth 20000 in
theorem ggX6_obstacleThere_X6_depth : GoodIn wsX6_obstacleThere wsX6_depth := goodIn_r _ [17, 13, 18, 19, 20, 21, 22, 23, 24, 25, 26, 27, 28, 29, 30, 31, 32, 33] (by decide +kernel) (by decide +kernel)
set_option maxRecDepth 20000 in
theorem gX6_obstacleThere_X6_depth : GoodIn wsX6_obstacleThere (wsV RX6 62 RX6 yX6_depth wsX6_depth) := goodIn_app (goodIn_of _ (by decide +kernel)) ggX6_obstacleThere_X6_depth
theorem dX6_obstacleThere_0 : decode cX6_obstacleThere 0 = .ok (.iload_n 2, 1) := by decide +kernel
theorem dX6_obstacleThere_1 : decode cX6_obstacleThere 1 = .ok (.iconst 1, 1) := by decide +kernel
theorem dX6_obstacleThere_2 : decode cX6_obstacleThere 2 = .ok (.aload_n 0, 1) := by decide +kernel
theorem dX6_obstacleThere_3 : decode cX6_obstacleThere 3 = .ok (.getfield 26, 3) := by decide +kernel
theorem dX6_obstacleThere_6 : decode cX6_obstacleThere 6 = .ok (.invokestatic 52, 3) := by decide +kernel
theorem dX6_obstacleThere_9 : decode cX6_obstacleThere 9 = .ok (.ifCond .eq 24, 3) := by decide +kernel
theorem dX6_obstacleThere_12 : decode cX6_obstacleThere 12 = .ok (.aload_n 0, 1) := by decide +kernel
theorem dX6_obstacleThere_13 : decode cX6_obstacleThere 13 = .ok (.iload_n 2, 1) := by decide +kernel
theorem dX6_obstacleThere_14 : decode cX6_obstacleThere 14 = .ok (.iconst 1, 1) := by decide +kernel
theorem dX6_obstacleThere_15 : decode cX6_obstacleThere 15 = .ok (.isub, 1) := by decide +kernel
theorem dX6_obstacleThere_16 : decode cX6_obstacleThere 16 = .ok (.invokevirtual 118, 3) := by decide +kernel
theorem dX6_obstacleThere_19 : decode cX6_obstacleThere 19 = .ok (.aload_n 0, 1) := by decide +kernel
theorem dX6_obstacleThere_20 : decode cX6_obstacleThere 20 = .ok (.getfield 16, 3) := by decide +kernel
theorem dX6_obstacleThere_23 : decode cX6_obstacleThere 23 = .ok (.iload_n 1, 1) := by decide +kernel
theorem dX6_obstacleThere_24 : decode cX6_obstacleThere 24 = .ok (.iaload, 1) := by decide +kernel
theorem dX6_obstacleThere_25 : decode cX6_obstacleThere 25 = .ok (.iadd, 1) := by decide +kernel
theorem dX6_obstacleThere_26 : decode cX6_obstacleThere 26 = .ok (.bipush 60, 2) := by decide +kernel
theorem dX6_obstacleThere_28 : decode cX6_obstacleThere 28 = .ok (.if_icmp .le 5, 3) := by decide +kernel
theorem dX6_obstacleThere_31 : decode cX6_obstacleThere 31 = .ok (.iconst 3, 1) := by decide +kernel
theorem dX6_obstacleThere_32 : decode cX6_obstacleThere 32 = .ok (.ireturn, 1) := by decide +kernel
theorem dX6_obstacleThere_33 : decode cX6_obstacleThere 33 = .ok (.iload_n 2, 1) := by decide +kernel
theorem dX6_obstacleThere_34 : decode cX6_obstacleThere 34 = .ok (.aload_n 0, 1) := by decide +kernel
theorem dX6_obstacleThere_35 : decode cX6_obstacleThere 35 = .ok (.getfield 26, 3) := by decide +kernel
theorem dX6_obstacleThere_38 : decode cX6_obstacleThere 38 = .ok (.iconst 1, 1) := by decide +kernel
theorem dX6_obstacleThere_39 : decode cX6_obstacleThere 39 = .ok (.iadd, 1) := by decide +kernel
theorem dX6_obstacleThere_40 : decode cX6_obstacleThere 40 = .ok (.if_icmp .ne 20, 3) := by decide +kernel
theorem dX6_obstacleThere_43 : decode cX6_obstacleThere 43 = .ok (.aload_n 0, 1) := by decide +kernel
theorem dX6_obstacleThere_44 : decode cX6_obstacleThere 44 = .ok (.invokevirtual 62, 3) := by decide +kernel
theorem dX6_obstacleThere_47 : decode cX6_obstacleThere 47 = .ok (.aload_n 0, 1) := by decide +kernel
theorem dX6_obstacleThere_48 : decode cX6_obstacleThere 48 = .ok (.getfield 19, 3) := by decide +kernel
theorem dX6_obstacleThere_51 : decode cX6_obstacleThere 51 = .ok (.iload_n 1, 1) := by decide +kernel
theorem dX6_obstacleThere_52 : decode cX6_obstacleThere 52 = .ok (.iaload, 1) := by decide +kernel
theorem dX6_obstacleThere_53 : decode cX6_obstacleThere 53 = .ok (.if_icmp .ge 7, 3) := by decide +kernel
theorem dX6_obstacleThere_56 : decode cX6_obstacleThere 56 = .ok (.iconst 4, 1) := by decide +kernel
theorem dX6_obstacleThere_57 : decode cX6_obstacleThere 57 = .ok (.goto 4, 3) := by decide +kernel
theorem dX6_obstacleThere_60 : decode cX6_obstacleThere 60 = .ok (.iconst 0, 1) := by decide +kernel
theorem dX6_obstacleThere_61 : decode cX6_obstacleThere 61 = .ok (.ireturn, 1) := by decide +kernel
set_option maxRecDepth 20000 in
theorem ggX6_obstacleToMove_X6_target : GoodIn wsX6_obstacleToMove wsX6_target := goodIn_r _ [5, 6, 47, 48, 49, 50, 51, 52, 53, 54, 55, 56, 57] (by decide +kernel) (by decide +kernel)
set_option maxRecDepth 20000 in
theorem gX6_obstacleToMove_X6_target : GoodIn wsX6_obstacleToMove (wsV RX6 121 RX6 yX6_target wsX6_target) := goodIn_app (goodIn_of _ (by decide +kernel)) ggX6_obstacleToMove_X6_target
set_option maxRecDepth 20000 in
theorem ggX6_obstacleToMove_X6_isPlace : GoodIn wsX6_obstacleToMove wsX6_isPlace := goodIn_r _ [10, 11, 12, 13, 4, 14, 47, 48, 49, 50, 51, 52, 53, 54, 55, 56, 57] (by decide +kernel) (by decide +kernel)
set_option maxRecDepth 20000 in
theorem gX6_obstacleToMove_X6_isPlace : GoodIn wsX6_obstacleToMove (wsV RX6 125 RX6 yX6_isPlace wsX6_isPlace) := goodIn_app (goodIn_of _ (by decide +kernel)) ggX6_obstacleToMove_X6_isPlace
set_option maxRecDepth 20000 in
theorem ggX6_obstacleToMove_X6_gateOf : GoodIn wsX6_obstacleToMove wsX6_gateOf := goodIn_r _ [18, 6, 47, 48, 49, 50, 51, 52, 53, 54, 55, 56, 57] (by decide +kernel) (by decide +kernel)
set_option maxRecDepth 20000 in
theorem gX6_obstacleToMove_X6_gateOf : GoodIn wsX6_obstacleToMove (wsV RX6 128 RX6 yX6_gateOf wsX6_gateOf) := goodIn_app (goodIn_of _ (by decide +kernel)) ggX6_obstacleToMove_X6_gateOf
set_option maxRecDepth 20000 in
theorem ggX6_obstacleToMove_X6_isOpenGate : GoodIn wsX6_obstacleToMove wsX6_isOpenGate := goodIn_r _ [22, 6, 23, 24, 25, 4, 26, 11, 12, 13, 14, 47, 48, 49, 50, 51, 52, 53, 54, 55, 56, 57] (by decide +kernel) (by decide +kernel)
set_option maxRecDepth 20000 in
theorem gX6_obstacleToMove_X6_isOpenGate : GoodIn wsX6_obstacleToMove (wsV RX6 76 RX6 yX6_isOpenGate wsX6_isOpenGate) := goodIn_app (goodIn_of _ (by decide +kernel)) ggX6_obstacleToMove_X6_isOpenGate
set_option maxRecDepth 20000 in
theorem ggX6_obstacleToMove_X6_obstacleThere : GoodIn wsX6_obstacleToMove wsX6_obstacleThere := goodIn_r _ [30, 11, 31, 32, 12, 13, 4, 14, 33, 34, 35, 36, 37, 6, 38, 39, 40, 41, 42, 43, 44, 45, 46, 47, 48, 49, 50, 51, 52, 53, 54, 55, 56, 57] (by decide +kernel) (by decide +kernel)
set_option maxRecDepth 20000 in
theorem gX6_obstacleToMove_X6_obstacleThere : GoodIn wsX6_obstacleToMove (wsV RX6 131 RX6 yX6_obstacleThere wsX6_obstacleThere) := goodIn_app (goodIn_of _ (by decide +kernel)) ggX6_obstacleToMove_X6_obstacleThere
theorem dX6_obstacleToMove_0 : decode cX6_obstacleToMove 0 = .ok (.aload_n 0, 1) := by decide +kernel
theorem dX6_obstacleToMove_1 : decode cX6_obstacleToMove 1 = .ok (.iload_n 1, 1) := by decide +kernel
theorem dX6_obstacleToMove_2 : decode cX6_obstacleToMove 2 = .ok (.iload_n 2, 1) := by decide +kernel
theorem dX6_obstacleToMove_3 : decode cX6_obstacleToMove 3 = .ok (.invokevirtual 121, 3) := by decide +kernel
theorem dX6_obstacleToMove_6 : decode cX6_obstacleToMove 6 = .ok (.istore_n 3, 1) := by decide +kernel
theorem dX6_obstacleToMove_7 : decode cX6_obstacleToMove 7 = .ok (.aload_n 0, 1) := by decide +kernel
theorem dX6_obstacleToMove_8 : decode cX6_obstacleToMove 8 = .ok (.iload_n 3, 1) := by decide +kernel
theorem dX6_obstacleToMove_9 : decode cX6_obstacleToMove 9 = .ok (.invokevirtual 125, 3) := by decide +kernel
theorem dX6_obstacleToMove_12 : decode cX6_obstacleToMove 12 = .ok (.ifCond .ne 5, 3) := by decide +kernel
theorem dX6_obstacleToMove_15 : decode cX6_obstacleToMove 15 = .ok (.iconst 1, 1) := by decide +kernel
theorem dX6_obstacleToMove_16 : decode cX6_obstacleToMove 16 = .ok (.ireturn, 1) := by decide +kernel
theorem dX6_obstacleToMove_17 : decode cX6_obstacleToMove 17 = .ok (.aload_n 0, 1) := by decide +kernel
theorem dX6_obstacleToMove_18 : decode cX6_obstacleToMove 18 = .ok (.aload_n 0, 1) := by decide +kernel
theorem dX6_obstacleToMove_19 : decode cX6_obstacleToMove 19 = .ok (.iload_n 1, 1) := by decide +kernel
theorem dX6_obstacleToMove_20 : decode cX6_obstacleToMove 20 = .ok (.iload_n 2, 1) := by decide +kernel
theorem dX6_obstacleToMove_21 : decode cX6_obstacleToMove 21 = .ok (.invokevirtual 128, 3) := by decide +kernel
theorem dX6_obstacleToMove_24 : decode cX6_obstacleToMove 24 = .ok (.invokevirtual 76, 3) := by decide +kernel
theorem dX6_obstacleToMove_27 : decode cX6_obstacleToMove 27 = .ok (.ifCond .eq 12, 3) := by decide +kernel
theorem dX6_obstacleToMove_30 : decode cX6_obstacleToMove 30 = .ok (.aload_n 0, 1) := by decide +kernel
theorem dX6_obstacleToMove_31 : decode cX6_obstacleToMove 31 = .ok (.iload_n 1, 1) := by decide +kernel
theorem dX6_obstacleToMove_32 : decode cX6_obstacleToMove 32 = .ok (.iload_n 3, 1) := by decide +kernel
theorem dX6_obstacleToMove_33 : decode cX6_obstacleToMove 33 = .ok (.invokevirtual 131, 3) := by decide +kernel
theorem dX6_obstacleToMove_36 : decode cX6_obstacleToMove 36 = .ok (.goto 4, 3) := by decide +kernel
theorem dX6_obstacleToMove_39 : decode cX6_obstacleToMove 39 = .ok (.iconst 2, 1) := by decide +kernel
theorem dX6_obstacleToMove_40 : decode cX6_obstacleToMove 40 = .ok (.ireturn, 1) := by decide +kernel
set_option maxRecDepth 20000 in
theorem ggX6_climb_X6_gateOf : GoodIn wsX6_climb wsX6_gateOf := goodIn_r _ [6, 1, 96, 97, 98, 99, 100, 101, 102, 103, 104, 105, 106] (by decide +kernel) (by decide +kernel)
set_option maxRecDepth 20000 in
theorem gX6_climb_X6_gateOf : GoodIn wsX6_climb (wsV RX6 128 RX6 yX6_gateOf wsX6_gateOf) := goodIn_app (goodIn_of _ (by decide +kernel)) ggX6_climb_X6_gateOf
set_option maxRecDepth 20000 in
theorem ggX6_climb_X6_levelGate : GoodIn wsX6_climb wsX6_levelGate := goodIn_r _ [10, 11, 12, 13, 14, 15, 5, 16, 17, 18, 19, 20, 21, 22, 23, 24, 25, 26, 27, 28, 1, 29, 30, 31, 32, 33, 34, 35, 36, 37, 38, 39, 40, 41, 42, 43, 44, 45, 46, 47, 48, 49, 50, 51, 52, 53, 54, 55, 56, 57, 58, 59, 60, 61, 62, 63, 64, 65, 66, 67, 68, 69, 70, 71, 72, 73, 74, 75, 76, 77, 96, 97, 98, 99, 100, 101, 102, 103, 104, 105, 106] (by decide +kernel) (by decide +kernel)
set_option maxRecDepth 20000 in
theorem gX6_climb_X6_levelGate : GoodIn wsX6_climb (wsV RX6 134 RX6 yX6_levelGate wsX6_levelGate) := goodIn_app (goodIn_of _ (by decide +kernel)) ggX6_climb_X6_levelGate
set_option maxRecDepth 20000 in
theorem ggX6_climb_X6_target : GoodIn wsX6_climb wsX6_target := goodIn_r _ [81, 1, 96, 97, 98, 99, 100, 101, 102, 103, 104, 105, 106] (by decide +kernel) (by decide +kernel)
set_option maxRecDepth 20000 in
theorem gX6_climb_X6_target : GoodIn wsX6_climb (wsV RX6 121 RX6 yX6_target wsX6_target) := goodIn_app (goodIn_of _ (by decide +kernel)) ggX6_climb_X6_target
set_option maxRecDepth 20000 in
theorem ggX6_climb_X6_obstacleThere : GoodIn wsX6_climb wsX6_obstacleThere := goodIn_r _ [85, 11, 86, 87, 88, 89, 5, 90, 91, 92, 93, 94, 95, 1, 25, 26, 27, 28, 29, 30, 31, 32, 33, 96, 97, 98, 99, 100, 101, 102, 103, 104, 105, 106] (by decide +kernel) (by decide +kernel)
set_option maxRecDepth 20000 in
theorem gX6_climb_X6_obstacleThere : GoodIn wsX6_climb (wsV RX6 131 RX6 yX6_obstacleThere wsX6_obstacleThere) := goodIn_app (goodIn_of _ (by decide +kernel)) ggX6_climb_X6_obstacleThere
set_option maxRecDepth 20000 in
theorem ggX6_climb_X6_fails : GoodIn wsX6_climb wsX6_fails := goodIn_r _ [41, 42, 43, 44, 5, 45, 1, 96, 97, 98, 99, 100, 101, 102, 103, 104, 105, 106] (by decide +kernel) (by decide +kernel)
set_option maxRecDepth 20000 in
theorem gX6_climb_X6_fails : GoodIn wsX6_climb (wsV RX6 108 RX6 yX6_fails wsX6_fails) := goodIn_app (goodIn_of _ (by decide +kernel)) ggX6_climb_X6_fails
set_option maxRecDepth 20000 in
theorem ggX6_climb_X6_report : GoodIn wsX6_climb wsX6_report := goodIn_r _ [45, 1, 96, 97, 98, 99, 100, 101, 102, 103, 104, 105, 106] (by decide +kernel) (by decide +kernel)
set_option maxRecDepth 20000 in
theorem gX6_climb_X6_report : GoodIn wsX6_climb (wsV RX6 98 RX6 yX6_report wsX6_report) := goodIn_app (goodIn_of _ (by decide +kernel)) ggX6_climb_X6_report
theorem dX6_climb_0 : decode cX6_climb 0 = .ok (.aload_n 0, 1) := by decide +kernel
theorem dX6_climb_1 : decode cX6_climb 1 = .ok (.iload_n 1, 1) := by decide +kernel
theorem dX6_climb_2 : decode cX6_climb 2 = .ok (.iload_n 2, 1) := by decide +kernel
theorem dX6_climb_3 : decode cX6_climb 3 = .ok (.invokevirtual 128, 3) := by decide +kernel
theorem dX6_climb_6 : decode cX6_climb 6 = .ok (.istore_n 3, 1) := by decide +kernel
theorem dX6_climb_7 : decode cX6_climb 7 = .ok (.aload_n 0, 1) := by decide +kernel
theorem dX6_climb_8 : decode cX6_climb 8 = .ok (.iload_n 3, 1) := by decide +kernel
theorem dX6_climb_9 : decode cX6_climb 9 = .ok (.invokevirtual 134, 3) := by decide +kernel
theorem dX6_climb_12 : decode cX6_climb 12 = .ok (.istore 4, 2) := by decide +kernel
theorem dX6_climb_14 : decode cX6_climb 14 = .ok (.aload_n 0, 1) := by decide +kernel
theorem dX6_climb_15 : decode cX6_climb 15 = .ok (.iload_n 1, 1) := by decide +kernel
theorem dX6_climb_16 : decode cX6_climb 16 = .ok (.iload_n 2, 1) := by decide +kernel
theorem dX6_climb_17 : decode cX6_climb 17 = .ok (.invokevirtual 121, 3) := by decide +kernel
theorem dX6_climb_20 : decode cX6_climb 20 = .ok (.istore 5, 2) := by decide +kernel
theorem dX6_climb_22 : decode cX6_climb 22 = .ok (.iload 4, 2) := by decide +kernel
theorem dX6_climb_24 : decode cX6_climb 24 = .ok (.ifCond .eq 13, 3) := by decide +kernel
theorem dX6_climb_27 : decode cX6_climb 27 = .ok (.aload_n 0, 1) := by decide +kernel
theorem dX6_climb_28 : decode cX6_climb 28 = .ok (.iload_n 1, 1) := by decide +kernel
theorem dX6_climb_29 : decode cX6_climb 29 = .ok (.iload 5, 2) := by decide +kernel
theorem dX6_climb_31 : decode cX6_climb 31 = .ok (.invokevirtual 131, 3) := by decide +kernel
theorem dX6_climb_34 : decode cX6_climb 34 = .ok (.goto 4, 3) := by decide +kernel
theorem dX6_climb_37 : decode cX6_climb 37 = .ok (.iconst 0, 1) := by decide +kernel
theorem dX6_climb_38 : decode cX6_climb 38 = .ok (.istore 6, 2) := by decide +kernel
theorem dX6_climb_40 : decode cX6_climb 40 = .ok (.iload 4, 2) := by decide +kernel
theorem dX6_climb_42 : decode cX6_climb 42 = .ok (.ifCond .eq 21, 3) := by decide +kernel
theorem dX6_climb_45 : decode cX6_climb 45 = .ok (.iload 6, 2) := by decide +kernel
theorem dX6_climb_47 : decode cX6_climb 47 = .ok (.ifCond .ne 16, 3) := by decide +kernel
theorem dX6_climb_50 : decode cX6_climb 50 = .ok (.aload_n 0, 1) := by decide +kernel
theorem dX6_climb_51 : decode cX6_climb 51 = .ok (.getfield 9, 3) := by decide +kernel
theorem dX6_climb_54 : decode cX6_climb 54 = .ok (.bipush 23, 2) := by decide +kernel
theorem dX6_climb_56 : decode cX6_climb 56 = .ok (.iload_n 1, 1) := by decide +kernel
theorem dX6_climb_57 : decode cX6_climb 57 = .ok (.iadd, 1) := by decide +kernel
theorem dX6_climb_58 : decode cX6_climb 58 = .ok (.iload 5, 2) := by decide +kernel
theorem dX6_climb_60 : decode cX6_climb 60 = .ok (.iastore, 1) := by decide +kernel
theorem dX6_climb_61 : decode cX6_climb 61 = .ok (.iconst 1, 1) := by decide +kernel
theorem dX6_climb_62 : decode cX6_climb 62 = .ok (.ireturn, 1) := by decide +kernel
theorem dX6_climb_63 : decode cX6_climb 63 = .ok (.iload 4, 2) := by decide +kernel
theorem dX6_climb_65 : decode cX6_climb 65 = .ok (.ifCond .eq 16, 3) := by decide +kernel
theorem dX6_climb_68 : decode cX6_climb 68 = .ok (.aload_n 0, 1) := by decide +kernel
theorem dX6_climb_69 : decode cX6_climb 69 = .ok (.iload 6, 2) := by decide +kernel
theorem dX6_climb_71 : decode cX6_climb 71 = .ok (.invokevirtual 108, 3) := by decide +kernel
theorem dX6_climb_74 : decode cX6_climb 74 = .ok (.ifCond .eq 7, 3) := by decide +kernel
theorem dX6_climb_77 : decode cX6_climb 77 = .ok (.iconst 1, 1) := by decide +kernel
theorem dX6_climb_78 : decode cX6_climb 78 = .ok (.goto 4, 3) := by decide +kernel
theorem dX6_climb_81 : decode cX6_climb 81 = .ok (.iconst 0, 1) := by decide +kernel
theorem dX6_climb_82 : decode cX6_climb 82 = .ok (.istore 7, 2) := by decide +kernel
theorem dX6_climb_84 : decode cX6_climb 84 = .ok (.aload_n 0, 1) := by decide +kernel
theorem dX6_climb_85 : decode cX6_climb 85 = .ok (.bipush 6, 2) := by decide +kernel
theorem dX6_climb_87 : decode cX6_climb 87 = .ok (.iload_n 3, 1) := by decide +kernel
theorem dX6_climb_88 : decode cX6_climb 88 = .ok (.invokevirtual 98, 3) := by decide +kernel
theorem dX6_climb_91 : decode cX6_climb 91 = .ok (.iconst 0, 1) := by decide +kernel
theorem dX6_climb_92 : decode cX6_climb 92 = .ok (.ireturn, 1) := by decide +kernel
set_option maxRecDepth 20000 in
theorem ggX6_takeOne_X6_target : GoodIn wsX6_takeOne wsX6_target := goodIn_r _ [7, 1, 104, 105, 106, 107, 108, 109, 110, 111, 112, 113, 114] (by decide +kernel) (by decide +kernel)
set_option maxRecDepth 20000 in
theorem gX6_takeOne_X6_target : GoodIn wsX6_takeOne (wsV RX6 121 RX6 yX6_target wsX6_target) := goodIn_app (goodIn_of _ (by decide +kernel)) ggX6_takeOne_X6_target
set_option maxRecDepth 20000 in
theorem ggX6_takeOne_X6_isPlace : GoodIn wsX6_takeOne wsX6_isPlace := goodIn_r _ [11, 2, 12, 13, 6, 14, 104, 105, 106, 107, 108, 109, 110, 111, 112, 113, 114] (by decide +kernel) (by decide +kernel)
set_option maxRecDepth 20000 in
theorem gX6_takeOne_X6_isPlace : GoodIn wsX6_takeOne (wsV RX6 125 RX6 yX6_isPlace wsX6_isPlace) := goodIn_app (goodIn_of _ (by decide +kernel)) ggX6_takeOne_X6_isPlace
set_option maxRecDepth 20000 in
theorem ggX6_takeOne_X6_climb : GoodIn wsX6_takeOne wsX6_climb := goodIn_r _ [18, 1, 19, 20, 21, 6, 22, 23, 24, 25, 26, 2, 27, 28, 29, 30, 31, 32, 33, 34, 35, 36, 37, 38, 39, 40, 41, 42, 43, 44, 45, 46, 47, 48, 49, 50, 51, 52, 53, 54, 55, 56, 57, 58, 59, 60, 61, 62, 63, 64, 65, 66, 67, 68, 69, 70, 71, 72, 73, 74, 75, 76, 77, 78, 79, 80, 81, 82, 83, 84, 85, 86, 87, 88, 89, 90, 91, 92, 3, 4, 5, 7, 93, 94, 95, 96, 97, 98, 12, 13, 14, 99, 100, 101, 102, 103, 104, 105, 106, 107, 108, 109, 110, 111, 112, 113, 114] (by decide +kernel) (by decide +kernel)
set_option maxRecDepth 20000 in
theorem gX6_takeOne_X6_climb : GoodIn wsX6_takeOne (wsV RX6 137 RX6 yX6_climb wsX6_climb) := goodIn_app (goodIn_of _ (by decide +kernel)) ggX6_takeOne_X6_climb
theorem dX6_takeOne_0 : decode cX6_takeOne 0 = .ok (.aload_n 0, 1) := by decide +kernel
theorem dX6_takeOne_1 : decode cX6_takeOne 1 = .ok (.getfield 9, 3) := by decide +kernel
theorem dX6_takeOne_4 : decode cX6_takeOne 4 = .ok (.bipush 33, 2) := by decide +kernel
theorem dX6_takeOne_6 : decode cX6_takeOne 6 = .ok (.iconst 0, 1) := by decide +kernel
theorem dX6_takeOne_7 : decode cX6_takeOne 7 = .ok (.iastore, 1) := by decide +kernel
theorem dX6_takeOne_8 : decode cX6_takeOne 8 = .ok (.iconst 0, 1) := by decide +kernel
theorem dX6_takeOne_9 : decode cX6_takeOne 9 = .ok (.istore_n 3, 1) := by decide +kernel
theorem dX6_takeOne_10 : decode cX6_takeOne 10 = .ok (.iload_n 3, 1) := by decide +kernel
theorem dX6_takeOne_11 : decode cX6_takeOne 11 = .ok (.aload_n 0, 1) := by decide +kernel
theorem dX6_takeOne_12 : decode cX6_takeOne 12 = .ok (.getfield 26, 3) := by decide +kernel
theorem dX6_takeOne_15 : decode cX6_takeOne 15 = .ok (.if_icmp .gt 29, 3) := by decide +kernel
theorem dX6_takeOne_18 : decode cX6_takeOne 18 = .ok (.aload_n 0, 1) := by decide +kernel
theorem dX6_takeOne_19 : decode cX6_takeOne 19 = .ok (.getfield 9, 3) := by decide +kernel
theorem dX6_takeOne_22 : decode cX6_takeOne 22 = .ok (.bipush 16, 2) := by decide +kernel
theorem dX6_takeOne_24 : decode cX6_takeOne 24 = .ok (.iload_n 3, 1) := by decide +kernel
theorem dX6_takeOne_25 : decode cX6_takeOne 25 = .ok (.iadd, 1) := by decide +kernel
theorem dX6_takeOne_26 : decode cX6_takeOne 26 = .ok (.iconst 0, 1) := by decide +kernel
theorem dX6_takeOne_27 : decode cX6_takeOne 27 = .ok (.iastore, 1) := by decide +kernel
theorem dX6_takeOne_28 : decode cX6_takeOne 28 = .ok (.aload_n 0, 1) := by decide +kernel
theorem dX6_takeOne_29 : decode cX6_takeOne 29 = .ok (.getfield 9, 3) := by decide +kernel
theorem dX6_takeOne_32 : decode cX6_takeOne 32 = .ok (.bipush 9, 2) := by decide +kernel
theorem dX6_takeOne_34 : decode cX6_takeOne 34 = .ok (.iload_n 3, 1) := by decide +kernel
theorem dX6_takeOne_35 : decode cX6_takeOne 35 = .ok (.iadd, 1) := by decide +kernel
theorem dX6_takeOne_36 : decode cX6_takeOne 36 = .ok (.iconst 0, 1) := by decide +kernel
theorem dX6_takeOne_37 : decode cX6_takeOne 37 = .ok (.iastore, 1) := by decide +kernel
theorem dX6_takeOne_38 : decode cX6_takeOne 38 = .ok (.iinc 3 1, 3) := by decide +kernel
theorem dX6_takeOne_41 : decode cX6_takeOne 41 = .ok (.goto (-31), 3) := by decide +kernel
theorem dX6_takeOne_44 : decode cX6_takeOne 44 = .ok (.aload_n 0, 1) := by decide +kernel
theorem dX6_takeOne_45 : decode cX6_takeOne 45 = .ok (.aload_n 0, 1) := by decide +kernel
theorem dX6_takeOne_46 : decode cX6_takeOne 46 = .ok (.iload_n 1, 1) := by decide +kernel
theorem dX6_takeOne_47 : decode cX6_takeOne 47 = .ok (.iload_n 2, 1) := by decide +kernel
theorem dX6_takeOne_48 : decode cX6_takeOne 48 = .ok (.invokevirtual 121, 3) := by decide +kernel
theorem dX6_takeOne_51 : decode cX6_takeOne 51 = .ok (.invokevirtual 125, 3) := by decide +kernel
theorem dX6_takeOne_54 : decode cX6_takeOne 54 = .ok (.ifCond .eq 14, 3) := by decide +kernel
theorem dX6_takeOne_57 : decode cX6_takeOne 57 = .ok (.aload_n 0, 1) := by decide +kernel
theorem dX6_takeOne_58 : decode cX6_takeOne 58 = .ok (.iload_n 1, 1) := by decide +kernel
theorem dX6_takeOne_59 : decode cX6_takeOne 59 = .ok (.iload_n 2, 1) := by decide +kernel
theorem dX6_takeOne_60 : decode cX6_takeOne 60 = .ok (.invokevirtual 137, 3) := by decide +kernel
theorem dX6_takeOne_63 : decode cX6_takeOne 63 = .ok (.ifCond .ne (-19), 3) := by decide +kernel
theorem dX6_takeOne_66 : decode cX6_takeOne 66 = .ok (.iconst 0, 1) := by decide +kernel
theorem dX6_takeOne_67 : decode cX6_takeOne 67 = .ok (.ireturn, 1) := by decide +kernel
theorem dX6_takeOne_68 : decode cX6_takeOne 68 = .ok (.iconst 1, 1) := by decide +kernel
theorem dX6_takeOne_69 : decode cX6_takeOne 69 = .ok (.ireturn, 1) := by decide +kernel
theorem dX6_putAside_0 : decode cX6_putAside 0 = .ok (.iconst 0, 1) := by decide +kernel
theorem dX6_putAside_1 : decode cX6_putAside 1 = .ok (.istore_n 1, 1) := by decide +kernel
theorem dX6_putAside_2 : decode cX6_putAside 2 = .ok (.iload_n 1, 1) := by decide +kernel
theorem dX6_putAside_3 : decode cX6_putAside 3 = .ok (.bipush 50, 2) := by decide +kernel
theorem dX6_putAside_5 : decode cX6_putAside 5 = .ok (.if_icmp .ge 21, 3) := by decide +kernel
theorem dX6_putAside_8 : decode cX6_putAside 8 = .ok (.aload_n 0, 1) := by decide +kernel
theorem dX6_putAside_9 : decode cX6_putAside 9 = .ok (.getfield 13, 3) := by decide +kernel
theorem dX6_putAside_12 : decode cX6_putAside 12 = .ok (.iload_n 1, 1) := by decide +kernel
theorem dX6_putAside_13 : decode cX6_putAside 13 = .ok (.aload_n 0, 1) := by decide +kernel
theorem dX6_putAside_14 : decode cX6_putAside 14 = .ok (.getfield 9, 3) := by decide +kernel
theorem dX6_putAside_17 : decode cX6_putAside 17 = .ok (.iload_n 1, 1) := by decide +kernel
theorem dX6_putAside_18 : decode cX6_putAside 18 = .ok (.iaload, 1) := by decide +kernel
theorem dX6_putAside_19 : decode cX6_putAside 19 = .ok (.iastore, 1) := by decide +kernel
theorem dX6_putAside_20 : decode cX6_putAside 20 = .ok (.iinc 1 1, 3) := by decide +kernel
theorem dX6_putAside_23 : decode cX6_putAside 23 = .ok (.goto (-21), 3) := by decide +kernel
theorem dX6_putAside_26 : decode cX6_putAside 26 = .ok (.return_, 1) := by decide +kernel
theorem dX6_takeBack_0 : decode cX6_takeBack 0 = .ok (.iconst 0, 1) := by decide +kernel
theorem dX6_takeBack_1 : decode cX6_takeBack 1 = .ok (.istore_n 1, 1) := by decide +kernel
theorem dX6_takeBack_2 : decode cX6_takeBack 2 = .ok (.iload_n 1, 1) := by decide +kernel
theorem dX6_takeBack_3 : decode cX6_takeBack 3 = .ok (.bipush 50, 2) := by decide +kernel
theorem dX6_takeBack_5 : decode cX6_takeBack 5 = .ok (.if_icmp .ge 21, 3) := by decide +kernel
theorem dX6_takeBack_8 : decode cX6_takeBack 8 = .ok (.aload_n 0, 1) := by decide +kernel
theorem dX6_takeBack_9 : decode cX6_takeBack 9 = .ok (.getfield 9, 3) := by decide +kernel
theorem dX6_takeBack_12 : decode cX6_takeBack 12 = .ok (.iload_n 1, 1) := by decide +kernel
theorem dX6_takeBack_13 : decode cX6_takeBack 13 = .ok (.aload_n 0, 1) := by decide +kernel
theorem dX6_takeBack_14 : decode cX6_takeBack 14 = .ok (.getfield 13, 3) := by decide +kernel
theorem dX6_takeBack_17 : decode cX6_takeBack 17 = .ok (.iload_n 1, 1) := by decide +kernel
theorem dX6_takeBack_18 : decode cX6_takeBack 18 = .ok (.iaload, 1) := by decide +kernel
theorem dX6_takeBack_19 : decode cX6_takeBack 19 = .ok (.iastore, 1) := by decide +kernel
theorem dX6_takeBack_20 : decode cX6_takeBack 20 = .ok (.iinc 1 1, 3) := by decide +kernel
theorem dX6_takeBack_23 : decode cX6_takeBack 23 = .ok (.goto (-21), 3) := by decide +kernel
theorem dX6_takeBack_26 : decode cX6_takeBack 26 = .ok (.return_, 1) := by decide +kernel
theorem dX6_chambers_0 : decode cX6_chambers 0 = .ok (.aload_n 0, 1) := by decide +kernel
theorem dX6_chambers_1 : decode cX6_chambers 1 = .ok (.iconst 0, 1) := by decide +kernel
theorem dX6_chambers_2 : decode cX6_chambers 2 = .ok (.putfield 40, 3) := by decide +kernel
theorem dX6_chambers_5 : decode cX6_chambers 5 = .ok (.aload_n 0, 1) := by decide +kernel
theorem dX6_chambers_6 : decode cX6_chambers 6 = .ok (.getfield 26, 3) := by decide +kernel
theorem dX6_chambers_9 : decode cX6_chambers 9 = .ok (.ireturn, 1) := by decide +kernel
set_option maxRecDepth 20000 in
theorem ggX6_levelOf_X6_isChamber : GoodIn wsX6_levelOf wsX6_isChamber := goodIn_r _ [5, 6, 7, 8, 4, 9, 21, 22, 23, 24, 25, 26, 27, 28, 29, 30, 31] (by decide +kernel) (by decide +kernel)
set_option maxRecDepth 20000 in
theorem gX6_levelOf_X6_isChamber : GoodIn wsX6_levelOf (wsV RX6 141 RX6 yX6_isChamber wsX6_isChamber) := goodIn_app (goodIn_of _ (by decide +kernel)) ggX6_levelOf_X6_isChamber
set_option maxRecDepth 20000 in
theorem ggX6_levelOf_X6_check : GoodIn wsX6_levelOf wsX6_check := goodIn_r _ [13, 14, 21, 22, 23, 24, 25, 26, 27, 28, 29, 30, 31] (by decide +kernel) (by decide +kernel)
set_option maxRecDepth 20000 in
theorem gX6_levelOf_X6_check : GoodIn wsX6_levelOf (wsV RX6 144 RX6 yX6_check wsX6_check) := goodIn_app (goodIn_of _ (by decide +kernel)) ggX6_levelOf_X6_check
set_option maxRecDepth 20000 in
theorem ggX6_levelOf_X6_level : GoodIn wsX6_levelOf wsX6_level := goodIn_r _ [18, 19, 20, 21, 22, 23, 24, 25, 26, 27, 28, 29, 30, 31] (by decide +kernel) (by decide +kernel)
set_option maxRecDepth 20000 in
theorem gX6_levelOf_X6_level : GoodIn wsX6_levelOf (wsV RX6 68 RX6 yX6_level wsX6_level) := goodIn_app (goodIn_of _ (by decide +kernel)) ggX6_levelOf_X6_level
theorem dX6_levelOf_0 : decode cX6_levelOf 0 = .ok (.aload_n 0, 1) := by decide +kernel
theorem dX6_levelOf_1 : decode cX6_levelOf 1 = .ok (.aload_n 0, 1) := by decide +kernel
theorem dX6_levelOf_2 : decode cX6_levelOf 2 = .ok (.iload_n 1, 1) := by decide +kernel
theorem dX6_levelOf_3 : decode cX6_levelOf 3 = .ok (.invokevirtual 141, 3) := by decide +kernel
theorem dX6_levelOf_6 : decode cX6_levelOf 6 = .ok (.iconst 1, 1) := by decide +kernel
theorem dX6_levelOf_7 : decode cX6_levelOf 7 = .ok (.iconst 1, 1) := by decide +kernel
theorem dX6_levelOf_8 : decode cX6_levelOf 8 = .ok (.invokevirtual 144, 3) := by decide +kernel
theorem dX6_levelOf_11 : decode cX6_levelOf 11 = .ok (.ifCond .eq 11, 3) := by decide +kernel
theorem dX6_levelOf_14 : decode cX6_levelOf 14 = .ok (.aload_n 0, 1) := by decide +kernel
theorem dX6_levelOf_15 : decode cX6_levelOf 15 = .ok (.iload_n 1, 1) := by decide +kernel
theorem dX6_levelOf_16 : decode cX6_levelOf 16 = .ok (.invokevirtual 68, 3) := by decide +kernel
theorem dX6_levelOf_19 : decode cX6_levelOf 19 = .ok (.goto 4, 3) := by decide +kernel
theorem dX6_levelOf_22 : decode cX6_levelOf 22 = .ok (.iconst 0, 1) := by decide +kernel
theorem dX6_levelOf_23 : decode cX6_levelOf 23 = .ok (.ireturn, 1) := by decide +kernel
set_option maxRecDepth 20000 in
theorem ggX6_poundLevel_X6_pound : GoodIn wsX6_poundLevel wsX6_pound := goodIn_r _ [6, 7, 8, 9, 10, 11, 5, 12, 13, 14, 15, 16, 17, 18, 19, 20, 21, 22, 23, 24, 25, 26, 27, 28, 29] (by decide +kernel) (by decide +kernel)
set_option maxRecDepth 20000 in
theorem gX6_poundLevel_X6_pound : GoodIn wsX6_poundLevel (wsV RX6 65 RX6 yX6_pound wsX6_pound) := goodIn_app (goodIn_of _ (by decide +kernel)) ggX6_poundLevel_X6_pound
theorem dX6_poundLevel_0 : decode cX6_poundLevel 0 = .ok (.aload_n 0, 1) := by decide +kernel
theorem dX6_poundLevel_1 : decode cX6_poundLevel 1 = .ok (.iconst 0, 1) := by decide +kernel
theorem dX6_poundLevel_2 : decode cX6_poundLevel 2 = .ok (.putfield 40, 3) := by decide +kernel
theorem dX6_poundLevel_5 : decode cX6_poundLevel 5 = .ok (.aload_n 0, 1) := by decide +kernel
theorem dX6_poundLevel_6 : decode cX6_poundLevel 6 = .ok (.invokevirtual 65, 3) := by decide +kernel
theorem dX6_poundLevel_9 : decode cX6_poundLevel 9 = .ok (.ireturn, 1) := by decide +kernel
set_option maxRecDepth 20000 in
theorem ggX6_poundDepth_X6_depth : GoodIn wsX6_poundDepth wsX6_depth := goodIn_r _ [6, 7, 8, 9, 10, 11, 12, 13, 14, 15, 16, 17, 18, 19, 20, 21, 22, 23] (by decide +kernel) (by decide +kernel)
set_option maxRecDepth 20000 in
theorem gX6_poundDepth_X6_depth : GoodIn wsX6_poundDepth (wsV RX6 62 RX6 yX6_depth wsX6_depth) := goodIn_app (goodIn_of _ (by decide +kernel)) ggX6_poundDepth_X6_depth
theorem dX6_poundDepth_0 : decode cX6_poundDepth 0 = .ok (.aload_n 0, 1) := by decide +kernel
theorem dX6_poundDepth_1 : decode cX6_poundDepth 1 = .ok (.iconst 0, 1) := by decide +kernel
theorem dX6_poundDepth_2 : decode cX6_poundDepth 2 = .ok (.putfield 40, 3) := by decide +kernel
theorem dX6_poundDepth_5 : decode cX6_poundDepth 5 = .ok (.aload_n 0, 1) := by decide +kernel
theorem dX6_poundDepth_6 : decode cX6_poundDepth 6 = .ok (.invokevirtual 62, 3) := by decide +kernel
theorem dX6_poundDepth_9 : decode cX6_poundDepth 9 = .ok (.ireturn, 1) := by decide +kernel
theorem dX6_poundWater_0 : decode cX6_poundWater 0 = .ok (.aload_n 0, 1) := by decide +kernel
theorem dX6_poundWater_1 : decode cX6_poundWater 1 = .ok (.iconst 0, 1) := by decide +kernel
theorem dX6_poundWater_2 : decode cX6_poundWater 2 = .ok (.putfield 40, 3) := by decide +kernel
theorem dX6_poundWater_5 : decode cX6_poundWater 5 = .ok (.aload_n 0, 1) := by decide +kernel
theorem dX6_poundWater_6 : decode cX6_poundWater 6 = .ok (.getfield 9, 3) := by decide +kernel
theorem dX6_poundWater_9 : decode cX6_poundWater 9 = .ok (.iconst 0, 1) := by decide +kernel
theorem dX6_poundWater_10 : decode cX6_poundWater 10 = .ok (.iaload, 1) := by decide +kernel
theorem dX6_poundWater_11 : decode cX6_poundWater 11 = .ok (.ireturn, 1) := by decide +kernel
set_option maxRecDepth 20000 in
theorem ggX6_rain_X6_isWithin : GoodIn wsX6_rain wsX6_isWithin := goodIn_r _ [12] (by decide +kernel) (by decide +kernel)
set_option maxRecDepth 20000 in
theorem gX6_rain_X6_isWithin : GoodIn wsX6_rain (va_wsS RX6 52 yX6_isWithin wsX6_isWithin) := goodIn_app (goodIn_of _ (by decide +kernel)) ggX6_rain_X6_isWithin
set_option maxRecDepth 20000 in
theorem ggX6_rain_X6_isOpenGate : GoodIn wsX6_rain wsX6_isOpenGate := goodIn_r _ [16, 2, 17, 18, 19, 11, 20, 1, 9, 10, 12, 31, 32, 33, 34, 35, 36, 37, 38, 39, 40, 41] (by decide +kernel) (by decide +kernel)
set_option maxRecDepth 20000 in
theorem gX6_rain_X6_isOpenGate : GoodIn wsX6_rain (wsV RX6 76 RX6 yX6_isOpenGate wsX6_isOpenGate) := goodIn_app (goodIn_of _ (by decide +kernel)) ggX6_rain_X6_isOpenGate
set_option maxRecDepth 20000 in
theorem ggX6_rain_X6_check : GoodIn wsX6_rain wsX6_check := goodIn_r _ [24, 25, 31, 32, 33, 34, 35, 36, 37, 38, 39, 40, 41] (by decide +kernel) (by decide +kernel)
set_option maxRecDepth 20000 in
theorem gX6_rain_X6_check : GoodIn wsX6_rain (wsV RX6 144 RX6 yX6_check wsX6_check) := goodIn_app (goodIn_of _ (by decide +kernel)) ggX6_rain_X6_check
set_option maxRecDepth 20000 in
theorem ggX6_rain_X6_full : GoodIn wsX6_rain wsX6_full := goodIn_r _ [29, 30, 31, 32, 33, 34, 35, 36, 37, 38, 39, 40, 41] (by decide +kernel) (by decide +kernel)
set_option maxRecDepth 20000 in
theorem gX6_rain_X6_full : GoodIn wsX6_rain (wsV RX6 36 RX6 yX6_full wsX6_full) := goodIn_app (goodIn_of _ (by decide +kernel)) ggX6_rain_X6_full
theorem dX6_rain_0 : decode cX6_rain 0 = .ok (.aload_n 0, 1) := by decide +kernel
theorem dX6_rain_1 : decode cX6_rain 1 = .ok (.iload_n 1, 1) := by decide +kernel
theorem dX6_rain_2 : decode cX6_rain 2 = .ok (.iconst 1, 1) := by decide +kernel
theorem dX6_rain_3 : decode cX6_rain 3 = .ok (.sipush 999, 3) := by decide +kernel
theorem dX6_rain_6 : decode cX6_rain 6 = .ok (.invokestatic 52, 3) := by decide +kernel
theorem dX6_rain_9 : decode cX6_rain 9 = .ok (.aload_n 0, 1) := by decide +kernel
theorem dX6_rain_10 : decode cX6_rain 10 = .ok (.aload_n 0, 1) := by decide +kernel
theorem dX6_rain_11 : decode cX6_rain 11 = .ok (.getfield 26, 3) := by decide +kernel
theorem dX6_rain_14 : decode cX6_rain 14 = .ok (.invokevirtual 76, 3) := by decide +kernel
theorem dX6_rain_17 : decode cX6_rain 17 = .ok (.ifCond .ne 7, 3) := by decide +kernel
theorem dX6_rain_20 : decode cX6_rain 20 = .ok (.iconst 1, 1) := by decide +kernel
theorem dX6_rain_21 : decode cX6_rain 21 = .ok (.goto 4, 3) := by decide +kernel
theorem dX6_rain_24 : decode cX6_rain 24 = .ok (.iconst 0, 1) := by decide +kernel
theorem dX6_rain_25 : decode cX6_rain 25 = .ok (.iconst 1, 1) := by decide +kernel
theorem dX6_rain_26 : decode cX6_rain 26 = .ok (.invokevirtual 144, 3) := by decide +kernel
theorem dX6_rain_29 : decode cX6_rain 29 = .ok (.ifCond .ne 5, 3) := by decide +kernel
theorem dX6_rain_32 : decode cX6_rain 32 = .ok (.iconst 0, 1) := by decide +kernel
theorem dX6_rain_33 : decode cX6_rain 33 = .ok (.ireturn, 1) := by decide +kernel
theorem dX6_rain_34 : decode cX6_rain 34 = .ok (.iconst 0, 1) := by decide +kernel
theorem dX6_rain_35 : decode cX6_rain 35 = .ok (.aload_n 0, 1) := by decide +kernel
theorem dX6_rain_36 : decode cX6_rain 36 = .ok (.getfield 9, 3) := by decide +kernel
theorem dX6_rain_39 : decode cX6_rain 39 = .ok (.iconst 0, 1) := by decide +kernel
theorem dX6_rain_40 : decode cX6_rain 40 = .ok (.iaload, 1) := by decide +kernel
theorem dX6_rain_41 : decode cX6_rain 41 = .ok (.iload_n 1, 1) := by decide +kernel
theorem dX6_rain_42 : decode cX6_rain 42 = .ok (.iadd, 1) := by decide +kernel
theorem dX6_rain_43 : decode cX6_rain 43 = .ok (.aload_n 0, 1) := by decide +kernel
theorem dX6_rain_44 : decode cX6_rain 44 = .ok (.invokevirtual 36, 3) := by decide +kernel
theorem dX6_rain_47 : decode cX6_rain 47 = .ok (.isub, 1) := by decide +kernel
theorem dX6_rain_48 : decode cX6_rain 48 = .ok (.invokestatic 49, 3) := by decide +kernel
theorem dX6_rain_51 : decode cX6_rain 51 = .ok (.istore_n 2, 1) := by decide +kernel
theorem dX6_rain_52 : decode cX6_rain 52 = .ok (.aload_n 0, 1) := by decide +kernel
theorem dX6_rain_53 : decode cX6_rain 53 = .ok (.getfield 9, 3) := by decide +kernel
theorem dX6_rain_56 : decode cX6_rain 56 = .ok (.iconst 0, 1) := by decide +kernel
theorem dX6_rain_57 : decode cX6_rain 57 = .ok (.dup2, 1) := by decide +kernel
theorem dX6_rain_58 : decode cX6_rain 58 = .ok (.iaload, 1) := by decide +kernel
theorem dX6_rain_59 : decode cX6_rain 59 = .ok (.iload_n 1, 1) := by decide +kernel
theorem dX6_rain_60 : decode cX6_rain 60 = .ok (.iload_n 2, 1) := by decide +kernel
theorem dX6_rain_61 : decode cX6_rain 61 = .ok (.isub, 1) := by decide +kernel
theorem dX6_rain_62 : decode cX6_rain 62 = .ok (.iadd, 1) := by decide +kernel
theorem dX6_rain_63 : decode cX6_rain 63 = .ok (.iastore, 1) := by decide +kernel
theorem dX6_rain_64 : decode cX6_rain 64 = .ok (.aload_n 0, 1) := by decide +kernel
theorem dX6_rain_65 : decode cX6_rain 65 = .ok (.dup, 1) := by decide +kernel
theorem dX6_rain_66 : decode cX6_rain 66 = .ok (.getfield 148, 3) := by decide +kernel
theorem dX6_rain_69 : decode cX6_rain 69 = .ok (.iload_n 1, 1) := by decide +kernel
theorem dX6_rain_70 : decode cX6_rain 70 = .ok (.iadd, 1) := by decide +kernel
theorem dX6_rain_71 : decode cX6_rain 71 = .ok (.putfield 148, 3) := by decide +kernel
theorem dX6_rain_74 : decode cX6_rain 74 = .ok (.aload_n 0, 1) := by decide +kernel
theorem dX6_rain_75 : decode cX6_rain 75 = .ok (.dup, 1) := by decide +kernel
theorem dX6_rain_76 : decode cX6_rain 76 = .ok (.getfield 151, 3) := by decide +kernel
theorem dX6_rain_79 : decode cX6_rain 79 = .ok (.iload_n 2, 1) := by decide +kernel
theorem dX6_rain_80 : decode cX6_rain 80 = .ok (.iadd, 1) := by decide +kernel
theorem dX6_rain_81 : decode cX6_rain 81 = .ok (.putfield 151, 3) := by decide +kernel
theorem dX6_rain_84 : decode cX6_rain 84 = .ok (.iload_n 2, 1) := by decide +kernel
theorem dX6_rain_85 : decode cX6_rain 85 = .ok (.ireturn, 1) := by decide +kernel
set_option maxRecDepth 20000 in
theorem ggX6_headAt_X6_isGate : GoodIn wsX6_headAt wsX6_isGate := goodIn_r _ [5, 6, 7, 8, 4, 9, 38, 39, 40, 41, 42, 43, 44, 45, 46, 47, 48] (by decide +kernel) (by decide +kernel)
set_option maxRecDepth 20000 in
theorem gX6_headAt_X6_isGate : GoodIn wsX6_headAt (wsV RX6 72 RX6 yX6_isGate wsX6_isGate) := goodIn_app (goodIn_of _ (by decide +kernel)) ggX6_headAt_X6_isGate
set_option maxRecDepth 20000 in
theorem ggX6_headAt_X6_check : GoodIn wsX6_headAt wsX6_check := goodIn_r _ [13, 14, 38, 39, 40, 41, 42, 43, 44, 45, 46, 47, 48] (by decide +kernel) (by decide +kernel)
set_option maxRecDepth 20000 in
theorem gX6_headAt_X6_check : GoodIn wsX6_headAt (wsV RX6 144 RX6 yX6_check wsX6_check) := goodIn_app (goodIn_of _ (by decide +kernel)) ggX6_headAt_X6_check
set_option maxRecDepth 20000 in
theorem ggX6_headAt_X6_head : GoodIn wsX6_headAt wsX6_head := goodIn_r _ [18, 6, 19, 20, 21, 4, 22, 23, 24, 25, 26, 27, 28, 29, 30, 31, 32, 33, 34, 35, 36, 37, 38, 39, 40, 41, 42, 43, 44, 45, 46, 47, 48] (by decide +kernel) (by decide +kernel)
set_option maxRecDepth 20000 in
theorem gX6_headAt_X6_head : GoodIn wsX6_headAt (wsV RX6 82 RX6 yX6_head wsX6_head) := goodIn_app (goodIn_of _ (by decide +kernel)) ggX6_headAt_X6_head
theorem dX6_headAt_0 : decode cX6_headAt 0 = .ok (.aload_n 0, 1) := by decide +kernel
theorem dX6_headAt_1 : decode cX6_headAt 1 = .ok (.aload_n 0, 1) := by decide +kernel
theorem dX6_headAt_2 : decode cX6_headAt 2 = .ok (.iload_n 1, 1) := by decide +kernel
theorem dX6_headAt_3 : decode cX6_headAt 3 = .ok (.invokevirtual 72, 3) := by decide +kernel
theorem dX6_headAt_6 : decode cX6_headAt 6 = .ok (.iconst 1, 1) := by decide +kernel
theorem dX6_headAt_7 : decode cX6_headAt 7 = .ok (.iconst 1, 1) := by decide +kernel
theorem dX6_headAt_8 : decode cX6_headAt 8 = .ok (.invokevirtual 144, 3) := by decide +kernel
theorem dX6_headAt_11 : decode cX6_headAt 11 = .ok (.ifCond .eq 11, 3) := by decide +kernel
theorem dX6_headAt_14 : decode cX6_headAt 14 = .ok (.aload_n 0, 1) := by decide +kernel
theorem dX6_headAt_15 : decode cX6_headAt 15 = .ok (.iload_n 1, 1) := by decide +kernel
theorem dX6_headAt_16 : decode cX6_headAt 16 = .ok (.invokevirtual 82, 3) := by decide +kernel
theorem dX6_headAt_19 : decode cX6_headAt 19 = .ok (.goto 4, 3) := by decide +kernel
theorem dX6_headAt_22 : decode cX6_headAt 22 = .ok (.iconst 0, 1) := by decide +kernel
theorem dX6_headAt_23 : decode cX6_headAt 23 = .ok (.ireturn, 1) := by decide +kernel
set_option maxRecDepth 20000 in
theorem ggX6_isOpen_X6_isGate : GoodIn wsX6_isOpen wsX6_isGate := goodIn_r _ [5, 6, 7, 8, 4, 9, 20, 21, 22, 23, 24, 25, 26, 27, 28, 29, 30] (by decide +kernel) (by decide +kernel)
set_option maxRecDepth 20000 in
theorem gX6_isOpen_X6_isGate : GoodIn wsX6_isOpen (wsV RX6 72 RX6 yX6_isGate wsX6_isGate) := goodIn_app (goodIn_of _ (by decide +kernel)) ggX6_isOpen_X6_isGate
set_option maxRecDepth 20000 in
theorem ggX6_isOpen_X6_check : GoodIn wsX6_isOpen wsX6_check := goodIn_r _ [13, 14, 20, 21, 22, 23, 24, 25, 26, 27, 28, 29, 30] (by decide +kernel) (by decide +kernel)
set_option maxRecDepth 20000 in
theorem gX6_isOpen_X6_check : GoodIn wsX6_isOpen (wsV RX6 144 RX6 yX6_check wsX6_check) := goodIn_app (goodIn_of _ (by decide +kernel)) ggX6_isOpen_X6_check
set_option maxRecDepth 20000 in
theorem ggX6_isOpen_X6_isOpenGate : GoodIn wsX6_isOpen wsX6_isOpenGate := goodIn_r _ [18, 19, 1, 2, 3, 4, 5, 6, 7, 8, 9, 20, 21, 22, 23, 24, 25, 26, 27, 28, 29, 30] (by decide +kernel) (by decide +kernel)
set_option maxRecDepth 20000 in
theorem gX6_isOpen_X6_isOpenGate : GoodIn wsX6_isOpen (wsV RX6 76 RX6 yX6_isOpenGate wsX6_isOpenGate) := goodIn_app (goodIn_of _ (by decide +kernel)) ggX6_isOpen_X6_isOpenGate
theorem dX6_isOpen_0 : decode cX6_isOpen 0 = .ok (.aload_n 0, 1) := by decide +kernel
theorem dX6_isOpen_1 : decode cX6_isOpen 1 = .ok (.aload_n 0, 1) := by decide +kernel
theorem dX6_isOpen_2 : decode cX6_isOpen 2 = .ok (.iload_n 1, 1) := by decide +kernel
theorem dX6_isOpen_3 : decode cX6_isOpen 3 = .ok (.invokevirtual 72, 3) := by decide +kernel
theorem dX6_isOpen_6 : decode cX6_isOpen 6 = .ok (.iconst 1, 1) := by decide +kernel
theorem dX6_isOpen_7 : decode cX6_isOpen 7 = .ok (.iconst 1, 1) := by decide +kernel
theorem dX6_isOpen_8 : decode cX6_isOpen 8 = .ok (.invokevirtual 144, 3) := by decide +kernel
theorem dX6_isOpen_11 : decode cX6_isOpen 11 = .ok (.ifCond .eq 15, 3) := by decide +kernel
theorem dX6_isOpen_14 : decode cX6_isOpen 14 = .ok (.aload_n 0, 1) := by decide +kernel
theorem dX6_isOpen_15 : decode cX6_isOpen 15 = .ok (.iload_n 1, 1) := by decide +kernel
theorem dX6_isOpen_16 : decode cX6_isOpen 16 = .ok (.invokevirtual 76, 3) := by decide +kernel
theorem dX6_isOpen_19 : decode cX6_isOpen 19 = .ok (.ifCond .eq 7, 3) := by decide +kernel
theorem dX6_isOpen_22 : decode cX6_isOpen 22 = .ok (.iconst 1, 1) := by decide +kernel
theorem dX6_isOpen_23 : decode cX6_isOpen 23 = .ok (.goto 4, 3) := by decide +kernel
theorem dX6_isOpen_26 : decode cX6_isOpen 26 = .ok (.iconst 0, 1) := by decide +kernel
theorem dX6_isOpen_27 : decode cX6_isOpen 27 = .ok (.ireturn, 1) := by decide +kernel
set_option maxRecDepth 20000 in
theorem ggX6_openObstacle_X6_isGate : GoodIn wsX6_openObstacle wsX6_isGate := goodIn_r _ [5, 6, 7, 8, 4, 9, 50, 51, 52, 53, 54, 55, 56, 57, 58, 59, 60] (by decide +kernel) (by decide +kernel)
set_option maxRecDepth 20000 in
theorem gX6_openObstacle_X6_isGate : GoodIn wsX6_openObstacle (wsV RX6 72 RX6 yX6_isGate wsX6_isGate) := goodIn_app (goodIn_of _ (by decide +kernel)) ggX6_openObstacle_X6_isGate
set_option maxRecDepth 20000 in
theorem ggX6_openObstacle_X6_check : GoodIn wsX6_openObstacle wsX6_check := goodIn_r _ [13, 14, 50, 51, 52, 53, 54, 55, 56, 57, 58, 59, 60] (by decide +kernel) (by decide +kernel)
set_option maxRecDepth 20000 in
theorem gX6_openObstacle_X6_check : GoodIn wsX6_openObstacle (wsV RX6 144 RX6 yX6_check wsX6_check) := goodIn_app (goodIn_of _ (by decide +kernel)) ggX6_openObstacle_X6_check
set_option maxRecDepth 20000 in
theorem ggX6_openObstacle_X6_obstacleToOpen : GoodIn wsX6_openObstacle wsX6_obstacleToOpen := goodIn_r _ [18, 19, 20, 21, 4, 22, 23, 1, 2, 3, 5, 6, 7, 8, 9, 24, 25, 26, 27, 28, 29, 30, 31, 32, 33, 34, 35, 36, 37, 38, 39, 40, 41, 42, 43, 44, 45, 46, 47, 48, 49, 50, 51, 52, 53, 54, 55, 56, 57, 58, 59, 60] (by decide +kernel) (by decide +kernel)
set_option maxRecDepth 20000 in
theorem gX6_openObstacle_X6_obstacleToOpen : GoodIn wsX6_openObstacle (wsV RX6 154 RX6 yX6_obstacleToOpen wsX6_obstacleToOpen) := goodIn_app (goodIn_of _ (by decide +kernel)) ggX6_openObstacle_X6_obstacleToOpen
theorem dX6_openObstacle_0 : decode cX6_openObstacle 0 = .ok (.aload_n 0, 1) := by decide +kernel
theorem dX6_openObstacle_1 : decode cX6_openObstacle 1 = .ok (.aload_n 0, 1) := by decide +kernel
theorem dX6_openObstacle_2 : decode cX6_openObstacle 2 = .ok (.iload_n 1, 1) := by decide +kernel
theorem dX6_openObstacle_3 : decode cX6_openObstacle 3 = .ok (.invokevirtual 72, 3) := by decide +kernel
theorem dX6_openObstacle_6 : decode cX6_openObstacle 6 = .ok (.iconst 1, 1) := by decide +kernel
theorem dX6_openObstacle_7 : decode cX6_openObstacle 7 = .ok (.iconst 1, 1) := by decide +kernel
theorem dX6_openObstacle_8 : decode cX6_openObstacle 8 = .ok (.invokevirtual 144, 3) := by decide +kernel
theorem dX6_openObstacle_11 : decode cX6_openObstacle 11 = .ok (.ifCond .eq 11, 3) := by decide +kernel
theorem dX6_openObstacle_14 : decode cX6_openObstacle 14 = .ok (.aload_n 0, 1) := by decide +kernel
theorem dX6_openObstacle_15 : decode cX6_openObstacle 15 = .ok (.iload_n 1, 1) := by decide +kernel
theorem dX6_openObstacle_16 : decode cX6_openObstacle 16 = .ok (.invokevirtual 154, 3) := by decide +kernel
theorem dX6_openObstacle_19 : decode cX6_openObstacle 19 = .ok (.goto 4, 3) := by decide +kernel
theorem dX6_openObstacle_22 : decode cX6_openObstacle 22 = .ok (.iconst 0, 1) := by decide +kernel
theorem dX6_openObstacle_23 : decode cX6_openObstacle 23 = .ok (.ireturn, 1) := by decide +kernel
set_option maxRecDepth 20000 in
theorem ggX6_open_X6_isGate : GoodIn wsX6_open wsX6_isGate := goodIn_r _ [7, 2, 8, 9, 6, 10, 50, 51, 52, 53, 54, 55, 56, 57, 58, 59, 60] (by decide +kernel) (by decide +kernel)
set_option maxRecDepth 20000 in
theorem gX6_open_X6_isGate : GoodIn wsX6_open (wsV RX6 72 RX6 yX6_isGate wsX6_isGate) := goodIn_app (goodIn_of _ (by decide +kernel)) ggX6_open_X6_isGate
set_option maxRecDepth 20000 in
theorem ggX6_open_X6_obstacleToOpen : GoodIn wsX6_open wsX6_obstacleToOpen := goodIn_r _ [14, 15, 16, 17, 6, 18, 1, 3, 4, 5, 7, 2, 8, 9, 10, 19, 20, 21, 22, 23, 24, 25, 26, 27, 28, 29, 30, 31, 32, 33, 34, 35, 36, 37, 38, 39, 40, 41, 42, 43, 44, 50, 51, 52, 53, 54, 55, 56, 57, 58, 59, 60] (by decide +kernel) (by decide +kernel)
set_option maxRecDepth 20000 in
theorem gX6_open_X6_obstacleToOpen : GoodIn wsX6_open (wsV RX6 154 RX6 yX6_obstacleToOpen wsX6_obstacleToOpen) := goodIn_app (goodIn_of _ (by decide +kernel)) ggX6_open_X6_obstacleToOpen
set_option maxRecDepth 20000 in
theorem ggX6_open_X6_check : GoodIn wsX6_open wsX6_check := goodIn_r _ [48, 49, 50, 51, 52, 53, 54, 55, 56, 57, 58, 59, 60] (by decide +kernel) (by decide +kernel)
set_option maxRecDepth 20000 in
theorem gX6_open_X6_check : GoodIn wsX6_open (wsV RX6 144 RX6 yX6_check wsX6_check) := goodIn_app (goodIn_of _ (by decide +kernel)) ggX6_open_X6_check
theorem dX6_open_0 : decode cX6_open 0 = .ok (.aload_n 0, 1) := by decide +kernel
theorem dX6_open_1 : decode cX6_open 1 = .ok (.iload_n 1, 1) := by decide +kernel
theorem dX6_open_2 : decode cX6_open 2 = .ok (.invokevirtual 72, 3) := by decide +kernel
theorem dX6_open_5 : decode cX6_open 5 = .ok (.istore_n 2, 1) := by decide +kernel
theorem dX6_open_6 : decode cX6_open 6 = .ok (.aload_n 0, 1) := by decide +kernel
theorem dX6_open_7 : decode cX6_open 7 = .ok (.iload_n 2, 1) := by decide +kernel
theorem dX6_open_8 : decode cX6_open 8 = .ok (.iload_n 2, 1) := by decide +kernel
theorem dX6_open_9 : decode cX6_open 9 = .ok (.ifCond .eq 11, 3) := by decide +kernel
theorem dX6_open_12 : decode cX6_open 12 = .ok (.aload_n 0, 1) := by decide +kernel
theorem dX6_open_13 : decode cX6_open 13 = .ok (.iload_n 1, 1) := by decide +kernel
theorem dX6_open_14 : decode cX6_open 14 = .ok (.invokevirtual 154, 3) := by decide +kernel
theorem dX6_open_17 : decode cX6_open 17 = .ok (.ifCond .ne 7, 3) := by decide +kernel
theorem dX6_open_20 : decode cX6_open 20 = .ok (.iconst 1, 1) := by decide +kernel
theorem dX6_open_21 : decode cX6_open 21 = .ok (.goto 4, 3) := by decide +kernel
theorem dX6_open_24 : decode cX6_open 24 = .ok (.iconst 0, 1) := by decide +kernel
theorem dX6_open_25 : decode cX6_open 25 = .ok (.iconst 1, 1) := by decide +kernel
theorem dX6_open_26 : decode cX6_open 26 = .ok (.invokevirtual 144, 3) := by decide +kernel
theorem dX6_open_29 : decode cX6_open 29 = .ok (.ifCond .ne 5, 3) := by decide +kernel
theorem dX6_open_32 : decode cX6_open 32 = .ok (.iconst 0, 1) := by decide +kernel
theorem dX6_open_33 : decode cX6_open 33 = .ok (.ireturn, 1) := by decide +kernel
theorem dX6_open_34 : decode cX6_open 34 = .ok (.aload_n 0, 1) := by decide +kernel
theorem dX6_open_35 : decode cX6_open 35 = .ok (.getfield 9, 3) := by decide +kernel
theorem dX6_open_38 : decode cX6_open 38 = .ok (.bipush 9, 2) := by decide +kernel
theorem dX6_open_40 : decode cX6_open 40 = .ok (.iload_n 1, 1) := by decide +kernel
theorem dX6_open_41 : decode cX6_open 41 = .ok (.iadd, 1) := by decide +kernel
theorem dX6_open_42 : decode cX6_open 42 = .ok (.iconst 1, 1) := by decide +kernel
theorem dX6_open_43 : decode cX6_open 43 = .ok (.iastore, 1) := by decide +kernel
theorem dX6_open_44 : decode cX6_open 44 = .ok (.iconst 0, 1) := by decide +kernel
theorem dX6_open_45 : decode cX6_open 45 = .ok (.istore_n 3, 1) := by decide +kernel
theorem dX6_open_46 : decode cX6_open 46 = .ok (.iconst 0, 1) := by decide +kernel
theorem dX6_open_47 : decode cX6_open 47 = .ok (.istore 4, 2) := by decide +kernel
theorem dX6_open_49 : decode cX6_open 49 = .ok (.iload 4, 2) := by decide +kernel
theorem dX6_open_51 : decode cX6_open 51 = .ok (.aload_n 0, 1) := by decide +kernel
theorem dX6_open_52 : decode cX6_open 52 = .ok (.getfield 26, 3) := by decide +kernel
theorem dX6_open_55 : decode cX6_open 55 = .ok (.if_icmp .gt 22, 3) := by decide +kernel
theorem dX6_open_58 : decode cX6_open 58 = .ok (.iload_n 3, 1) := by decide +kernel
theorem dX6_open_59 : decode cX6_open 59 = .ok (.aload_n 0, 1) := by decide +kernel
theorem dX6_open_60 : decode cX6_open 60 = .ok (.getfield 9, 3) := by decide +kernel
theorem dX6_open_63 : decode cX6_open 63 = .ok (.bipush 9, 2) := by decide +kernel
theorem dX6_open_65 : decode cX6_open 65 = .ok (.iload 4, 2) := by decide +kernel
theorem dX6_open_67 : decode cX6_open 67 = .ok (.iadd, 1) := by decide +kernel
theorem dX6_open_68 : decode cX6_open 68 = .ok (.iaload, 1) := by decide +kernel
theorem dX6_open_69 : decode cX6_open 69 = .ok (.iadd, 1) := by decide +kernel
theorem dX6_open_70 : decode cX6_open 70 = .ok (.istore_n 3, 1) := by decide +kernel
theorem dX6_open_71 : decode cX6_open 71 = .ok (.iinc 4 1, 3) := by decide +kernel
theorem dX6_open_74 : decode cX6_open 74 = .ok (.goto (-25), 3) := by decide +kernel
theorem dX6_open_77 : decode cX6_open 77 = .ok (.iload_n 3, 1) := by decide +kernel
theorem dX6_open_78 : decode cX6_open 78 = .ok (.ireturn, 1) := by decide +kernel
set_option maxRecDepth 20000 in
theorem ggX6_shut_X6_isGate : GoodIn wsX6_shut wsX6_isGate := goodIn_r _ [6, 7, 8, 9, 5, 10, 20, 21, 22, 23, 24, 25, 26, 27, 28, 29, 30] (by decide +kernel) (by decide +kernel)
set_option maxRecDepth 20000 in
theorem gX6_shut_X6_isGate : GoodIn wsX6_shut (wsV RX6 72 RX6 yX6_isGate wsX6_isGate) := goodIn_app (goodIn_of _ (by decide +kernel)) ggX6_shut_X6_isGate
set_option maxRecDepth 20000 in
theorem ggX6_shut_X6_check : GoodIn wsX6_shut wsX6_check := goodIn_r _ [14, 15, 20, 21, 22, 23, 24, 25, 26, 27, 28, 29, 30] (by decide +kernel) (by decide +kernel)
set_option maxRecDepth 20000 in
theorem gX6_shut_X6_check : GoodIn wsX6_shut (wsV RX6 144 RX6 yX6_check wsX6_check) := goodIn_app (goodIn_of _ (by decide +kernel)) ggX6_shut_X6_check
set_option maxRecDepth 20000 in
theorem ggX6_shut_X6_isOpenGate : GoodIn wsX6_shut wsX6_isOpenGate := goodIn_r _ [19, 1, 2, 3, 4, 5, 6, 7, 8, 9, 10, 20, 21, 22, 23, 24, 25, 26, 27, 28, 29, 30] (by decide +kernel) (by decide +kernel)
set_option maxRecDepth 20000 in
theorem gX6_shut_X6_isOpenGate : GoodIn wsX6_shut (wsV RX6 76 RX6 yX6_isOpenGate wsX6_isOpenGate) := goodIn_app (goodIn_of _ (by decide +kernel)) ggX6_shut_X6_isOpenGate
theorem dX6_shut_0 : decode cX6_shut 0 = .ok (.aload_n 0, 1) := by decide +kernel
theorem dX6_shut_1 : decode cX6_shut 1 = .ok (.aload_n 0, 1) := by decide +kernel
theorem dX6_shut_2 : decode cX6_shut 2 = .ok (.iload_n 1, 1) := by decide +kernel
theorem dX6_shut_3 : decode cX6_shut 3 = .ok (.invokevirtual 72, 3) := by decide +kernel
theorem dX6_shut_6 : decode cX6_shut 6 = .ok (.iconst 1, 1) := by decide +kernel
theorem dX6_shut_7 : decode cX6_shut 7 = .ok (.iconst 1, 1) := by decide +kernel
theorem dX6_shut_8 : decode cX6_shut 8 = .ok (.invokevirtual 144, 3) := by decide +kernel
theorem dX6_shut_11 : decode cX6_shut 11 = .ok (.ifCond .ne 5, 3) := by decide +kernel
theorem dX6_shut_14 : decode cX6_shut 14 = .ok (.iconst 0, 1) := by decide +kernel
theorem dX6_shut_15 : decode cX6_shut 15 = .ok (.ireturn, 1) := by decide +kernel
theorem dX6_shut_16 : decode cX6_shut 16 = .ok (.aload_n 0, 1) := by decide +kernel
theorem dX6_shut_17 : decode cX6_shut 17 = .ok (.iload_n 1, 1) := by decide +kernel
theorem dX6_shut_18 : decode cX6_shut 18 = .ok (.invokevirtual 76, 3) := by decide +kernel
theorem dX6_shut_21 : decode cX6_shut 21 = .ok (.istore_n 2, 1) := by decide +kernel
theorem dX6_shut_22 : decode cX6_shut 22 = .ok (.aload_n 0, 1) := by decide +kernel
theorem dX6_shut_23 : decode cX6_shut 23 = .ok (.getfield 9, 3) := by decide +kernel
theorem dX6_shut_26 : decode cX6_shut 26 = .ok (.bipush 9, 2) := by decide +kernel
theorem dX6_shut_28 : decode cX6_shut 28 = .ok (.iload_n 1, 1) := by decide +kernel
theorem dX6_shut_29 : decode cX6_shut 29 = .ok (.iadd, 1) := by decide +kernel
theorem dX6_shut_30 : decode cX6_shut 30 = .ok (.iconst 0, 1) := by decide +kernel
theorem dX6_shut_31 : decode cX6_shut 31 = .ok (.iastore, 1) := by decide +kernel
theorem dX6_shut_32 : decode cX6_shut 32 = .ok (.iload_n 2, 1) := by decide +kernel
theorem dX6_shut_33 : decode cX6_shut 33 = .ok (.ireturn, 1) := by decide +kernel
set_option maxRecDepth 20000 in
theorem ggX6_turnsOf_X6_isGate : GoodIn wsX6_turnsOf wsX6_isGate := goodIn_r _ [6, 7, 8, 9, 5, 10, 16, 17, 18, 19, 20, 21, 22, 23, 24, 25, 26] (by decide +kernel) (by decide +kernel)
set_option maxRecDepth 20000 in
theorem gX6_turnsOf_X6_isGate : GoodIn wsX6_turnsOf (wsV RX6 72 RX6 yX6_isGate wsX6_isGate) := goodIn_app (goodIn_of _ (by decide +kernel)) ggX6_turnsOf_X6_isGate
set_option maxRecDepth 20000 in
theorem ggX6_turnsOf_X6_check : GoodIn wsX6_turnsOf wsX6_check := goodIn_r _ [14, 15, 16, 17, 18, 19, 20, 21, 22, 23, 24, 25, 26] (by decide +kernel) (by decide +kernel)
set_option maxRecDepth 20000 in
theorem gX6_turnsOf_X6_check : GoodIn wsX6_turnsOf (wsV RX6 144 RX6 yX6_check wsX6_check) := goodIn_app (goodIn_of _ (by decide +kernel)) ggX6_turnsOf_X6_check
theorem dX6_turnsOf_0 : decode cX6_turnsOf 0 = .ok (.aload_n 0, 1) := by decide +kernel
theorem dX6_turnsOf_1 : decode cX6_turnsOf 1 = .ok (.aload_n 0, 1) := by decide +kernel
theorem dX6_turnsOf_2 : decode cX6_turnsOf 2 = .ok (.iload_n 1, 1) := by decide +kernel
theorem dX6_turnsOf_3 : decode cX6_turnsOf 3 = .ok (.invokevirtual 72, 3) := by decide +kernel
theorem dX6_turnsOf_6 : decode cX6_turnsOf 6 = .ok (.iconst 1, 1) := by decide +kernel
theorem dX6_turnsOf_7 : decode cX6_turnsOf 7 = .ok (.iconst 1, 1) := by decide +kernel
theorem dX6_turnsOf_8 : decode cX6_turnsOf 8 = .ok (.invokevirtual 144, 3) := by decide +kernel
theorem dX6_turnsOf_11 : decode cX6_turnsOf 11 = .ok (.ifCond .eq 15, 3) := by decide +kernel
theorem dX6_turnsOf_14 : decode cX6_turnsOf 14 = .ok (.aload_n 0, 1) := by decide +kernel
theorem dX6_turnsOf_15 : decode cX6_turnsOf 15 = .ok (.getfield 9, 3) := by decide +kernel
theorem dX6_turnsOf_18 : decode cX6_turnsOf 18 = .ok (.bipush 16, 2) := by decide +kernel
theorem dX6_turnsOf_20 : decode cX6_turnsOf 20 = .ok (.iload_n 1, 1) := by decide +kernel
theorem dX6_turnsOf_21 : decode cX6_turnsOf 21 = .ok (.iadd, 1) := by decide +kernel
theorem dX6_turnsOf_22 : decode cX6_turnsOf 22 = .ok (.iaload, 1) := by decide +kernel
theorem dX6_turnsOf_23 : decode cX6_turnsOf 23 = .ok (.goto 4, 3) := by decide +kernel
theorem dX6_turnsOf_26 : decode cX6_turnsOf 26 = .ok (.iconst 0, 1) := by decide +kernel
theorem dX6_turnsOf_27 : decode cX6_turnsOf 27 = .ok (.ireturn, 1) := by decide +kernel
set_option maxRecDepth 20000 in
theorem ggX6_wind_X6_isOpenGate : GoodIn wsX6_wind wsX6_isOpenGate := goodIn_r _ [6, 1, 7, 8, 9, 5, 10, 11, 12, 13, 14, 20, 21, 22, 23, 24, 25, 26, 27, 28, 29, 30] (by decide +kernel) (by decide +kernel)
set_option maxRecDepth 20000 in
theorem gX6_wind_X6_isOpenGate : GoodIn wsX6_wind (wsV RX6 76 RX6 yX6_isOpenGate wsX6_isOpenGate) := goodIn_app (goodIn_of _ (by decide +kernel)) ggX6_wind_X6_isOpenGate
set_option maxRecDepth 20000 in
theorem ggX6_wind_X6_isGate : GoodIn wsX6_wind wsX6_isGate := goodIn_r _ [10, 11, 12, 13, 5, 14, 20, 21, 22, 23, 24, 25, 26, 27, 28, 29, 30] (by decide +kernel) (by decide +kernel)
set_option maxRecDepth 20000 in
theorem gX6_wind_X6_isGate : GoodIn wsX6_wind (wsV RX6 72 RX6 yX6_isGate wsX6_isGate) := goodIn_app (goodIn_of _ (by decide +kernel)) ggX6_wind_X6_isGate
set_option maxRecDepth 20000 in
theorem ggX6_wind_X6_isWithin : GoodIn wsX6_wind wsX6_isWithin := goodIn_r _ [14] (by decide +kernel) (by decide +kernel)
set_option maxRecDepth 20000 in
theorem gX6_wind_X6_isWithin : GoodIn wsX6_wind (va_wsS RX6 52 yX6_isWithin wsX6_isWithin) := goodIn_app (goodIn_of _ (by decide +kernel)) ggX6_wind_X6_isWithin
set_option maxRecDepth 20000 in
theorem ggX6_wind_X6_check : GoodIn wsX6_wind wsX6_check := goodIn_r _ [18, 19, 20, 21, 22, 23, 24, 25, 26, 27, 28, 29, 30] (by decide +kernel) (by decide +kernel)
set_option maxRecDepth 20000 in
theorem gX6_wind_X6_check : GoodIn wsX6_wind (wsV RX6 144 RX6 yX6_check wsX6_check) := goodIn_app (goodIn_of _ (by decide +kernel)) ggX6_wind_X6_check
theorem dX6_wind_0 : decode cX6_wind 0 = .ok (.aload_n 0, 1) := by decide +kernel
theorem dX6_wind_1 : decode cX6_wind 1 = .ok (.iload_n 1, 1) := by decide +kernel
theorem dX6_wind_2 : decode cX6_wind 2 = .ok (.invokevirtual 76, 3) := by decide +kernel
theorem dX6_wind_5 : decode cX6_wind 5 = .ok (.ifCond .ne 23, 3) := by decide +kernel
theorem dX6_wind_8 : decode cX6_wind 8 = .ok (.aload_n 0, 1) := by decide +kernel
theorem dX6_wind_9 : decode cX6_wind 9 = .ok (.iload_n 1, 1) := by decide +kernel
theorem dX6_wind_10 : decode cX6_wind 10 = .ok (.iconst 1, 1) := by decide +kernel
theorem dX6_wind_11 : decode cX6_wind 11 = .ok (.isub, 1) := by decide +kernel
theorem dX6_wind_12 : decode cX6_wind 12 = .ok (.invokevirtual 76, 3) := by decide +kernel
theorem dX6_wind_15 : decode cX6_wind 15 = .ok (.ifCond .ne 13, 3) := by decide +kernel
theorem dX6_wind_18 : decode cX6_wind 18 = .ok (.aload_n 0, 1) := by decide +kernel
theorem dX6_wind_19 : decode cX6_wind 19 = .ok (.iload_n 1, 1) := by decide +kernel
theorem dX6_wind_20 : decode cX6_wind 20 = .ok (.iconst 1, 1) := by decide +kernel
theorem dX6_wind_21 : decode cX6_wind 21 = .ok (.iadd, 1) := by decide +kernel
theorem dX6_wind_22 : decode cX6_wind 22 = .ok (.invokevirtual 76, 3) := by decide +kernel
theorem dX6_wind_25 : decode cX6_wind 25 = .ok (.ifCond .eq 7, 3) := by decide +kernel
theorem dX6_wind_28 : decode cX6_wind 28 = .ok (.iconst 1, 1) := by decide +kernel
theorem dX6_wind_29 : decode cX6_wind 29 = .ok (.goto 4, 3) := by decide +kernel
theorem dX6_wind_32 : decode cX6_wind 32 = .ok (.iconst 0, 1) := by decide +kernel
theorem dX6_wind_33 : decode cX6_wind 33 = .ok (.istore_n 3, 1) := by decide +kernel
theorem dX6_wind_34 : decode cX6_wind 34 = .ok (.aload_n 0, 1) := by decide +kernel
theorem dX6_wind_35 : decode cX6_wind 35 = .ok (.aload_n 0, 1) := by decide +kernel
theorem dX6_wind_36 : decode cX6_wind 36 = .ok (.iload_n 1, 1) := by decide +kernel
theorem dX6_wind_37 : decode cX6_wind 37 = .ok (.invokevirtual 72, 3) := by decide +kernel
theorem dX6_wind_40 : decode cX6_wind 40 = .ok (.iload_n 2, 1) := by decide +kernel
theorem dX6_wind_41 : decode cX6_wind 41 = .ok (.iconst 0, 1) := by decide +kernel
theorem dX6_wind_42 : decode cX6_wind 42 = .ok (.iconst 5, 1) := by decide +kernel
theorem dX6_wind_43 : decode cX6_wind 43 = .ok (.invokestatic 52, 3) := by decide +kernel
theorem dX6_wind_46 : decode cX6_wind 46 = .ok (.iload_n 2, 1) := by decide +kernel
theorem dX6_wind_47 : decode cX6_wind 47 = .ok (.ifCond .eq 7, 3) := by decide +kernel
theorem dX6_wind_50 : decode cX6_wind 50 = .ok (.iload_n 3, 1) := by decide +kernel
theorem dX6_wind_51 : decode cX6_wind 51 = .ok (.ifCond .ne 7, 3) := by decide +kernel
theorem dX6_wind_54 : decode cX6_wind 54 = .ok (.iconst 1, 1) := by decide +kernel
theorem dX6_wind_55 : decode cX6_wind 55 = .ok (.goto 4, 3) := by decide +kernel
theorem dX6_wind_58 : decode cX6_wind 58 = .ok (.iconst 0, 1) := by decide +kernel
theorem dX6_wind_59 : decode cX6_wind 59 = .ok (.invokevirtual 144, 3) := by decide +kernel
theorem dX6_wind_62 : decode cX6_wind 62 = .ok (.ifCond .ne 5, 3) := by decide +kernel
theorem dX6_wind_65 : decode cX6_wind 65 = .ok (.iconst 0, 1) := by decide +kernel
theorem dX6_wind_66 : decode cX6_wind 66 = .ok (.ireturn, 1) := by decide +kernel
theorem dX6_wind_67 : decode cX6_wind 67 = .ok (.aload_n 0, 1) := by decide +kernel
theorem dX6_wind_68 : decode cX6_wind 68 = .ok (.getfield 9, 3) := by decide +kernel
theorem dX6_wind_71 : decode cX6_wind 71 = .ok (.bipush 16, 2) := by decide +kernel
theorem dX6_wind_73 : decode cX6_wind 73 = .ok (.iload_n 1, 1) := by decide +kernel
theorem dX6_wind_74 : decode cX6_wind 74 = .ok (.iadd, 1) := by decide +kernel
theorem dX6_wind_75 : decode cX6_wind 75 = .ok (.iaload, 1) := by decide +kernel
theorem dX6_wind_76 : decode cX6_wind 76 = .ok (.istore 4, 2) := by decide +kernel
theorem dX6_wind_78 : decode cX6_wind 78 = .ok (.aload_n 0, 1) := by decide +kernel
theorem dX6_wind_79 : decode cX6_wind 79 = .ok (.getfield 9, 3) := by decide +kernel
theorem dX6_wind_82 : decode cX6_wind 82 = .ok (.bipush 16, 2) := by decide +kernel
theorem dX6_wind_84 : decode cX6_wind 84 = .ok (.iload_n 1, 1) := by decide +kernel
theorem dX6_wind_85 : decode cX6_wind 85 = .ok (.iadd, 1) := by decide +kernel
theorem dX6_wind_86 : decode cX6_wind 86 = .ok (.iload_n 2, 1) := by decide +kernel
theorem dX6_wind_87 : decode cX6_wind 87 = .ok (.iastore, 1) := by decide +kernel
theorem dX6_wind_88 : decode cX6_wind 88 = .ok (.iload 4, 2) := by decide +kernel
theorem dX6_wind_90 : decode cX6_wind 90 = .ok (.ireturn, 1) := by decide +kernel
set_option maxRecDepth 20000 in
theorem ggX6_pass_X6_isWithin : GoodIn wsX6_pass wsX6_isWithin := goodIn_r _ [4] (by decide +kernel) (by decide +kernel)
set_option maxRecDepth 20000 in
theorem gX6_pass_X6_isWithin : GoodIn wsX6_pass (va_wsS RX6 52 yX6_isWithin wsX6_isWithin) := goodIn_app (goodIn_of _ (by decide +kernel)) ggX6_pass_X6_isWithin
set_option maxRecDepth 20000 in
theorem ggX6_pass_X6_check : GoodIn wsX6_pass wsX6_check := goodIn_r _ [8, 9, 46, 47, 48, 49, 50, 51, 52, 53, 54, 55, 56] (by decide +kernel) (by decide +kernel)
set_option maxRecDepth 20000 in
theorem gX6_pass_X6_check : GoodIn wsX6_pass (wsV RX6 144 RX6 yX6_check wsX6_check) := goodIn_app (goodIn_of _ (by decide +kernel)) ggX6_pass_X6_check
set_option maxRecDepth 20000 in
theorem ggX6_pass_X6_flowAll : GoodIn wsX6_pass wsX6_flowAll := goodIn_r _ [13, 14, 15, 16, 17, 18, 3, 19, 20, 21, 22, 23, 24, 25, 26, 27, 28, 29, 30, 31, 32, 33, 34, 35, 36, 37, 38, 39, 40, 41, 42, 43, 44, 45, 46, 47, 48, 49, 50, 51, 52, 53, 54, 55, 56] (by decide +kernel) (by decide +kernel)
set_option maxRecDepth 20000 in
theorem gX6_pass_X6_flowAll : GoodIn wsX6_pass (wsV RX6 157 RX6 yX6_flowAll wsX6_flowAll) := goodIn_app (goodIn_of _ (by decide +kernel)) ggX6_pass_X6_flowAll
theorem dX6_pass_0 : decode cX6_pass 0 = .ok (.aload_n 0, 1) := by decide +kernel
theorem dX6_pass_1 : decode cX6_pass 1 = .ok (.iload_n 1, 1) := by decide +kernel
theorem dX6_pass_2 : decode cX6_pass 2 = .ok (.iconst 1, 1) := by decide +kernel
theorem dX6_pass_3 : decode cX6_pass 3 = .ok (.bipush 60, 2) := by decide +kernel
theorem dX6_pass_5 : decode cX6_pass 5 = .ok (.invokestatic 52, 3) := by decide +kernel
theorem dX6_pass_8 : decode cX6_pass 8 = .ok (.iconst 1, 1) := by decide +kernel
theorem dX6_pass_9 : decode cX6_pass 9 = .ok (.iconst 1, 1) := by decide +kernel
theorem dX6_pass_10 : decode cX6_pass 10 = .ok (.invokevirtual 144, 3) := by decide +kernel
theorem dX6_pass_13 : decode cX6_pass 13 = .ok (.ifCond .ne 5, 3) := by decide +kernel
theorem dX6_pass_16 : decode cX6_pass 16 = .ok (.iconst 0, 1) := by decide +kernel
theorem dX6_pass_17 : decode cX6_pass 17 = .ok (.ireturn, 1) := by decide +kernel
theorem dX6_pass_18 : decode cX6_pass 18 = .ok (.iconst 0, 1) := by decide +kernel
theorem dX6_pass_19 : decode cX6_pass 19 = .ok (.istore_n 2, 1) := by decide +kernel
theorem dX6_pass_20 : decode cX6_pass 20 = .ok (.iconst 0, 1) := by decide +kernel
theorem dX6_pass_21 : decode cX6_pass 21 = .ok (.istore_n 3, 1) := by decide +kernel
theorem dX6_pass_22 : decode cX6_pass 22 = .ok (.iload_n 3, 1) := by decide +kernel
theorem dX6_pass_23 : decode cX6_pass 23 = .ok (.iload_n 1, 1) := by decide +kernel
theorem dX6_pass_24 : decode cX6_pass 24 = .ok (.if_icmp .ge 16, 3) := by decide +kernel
theorem dX6_pass_27 : decode cX6_pass 27 = .ok (.iload_n 2, 1) := by decide +kernel
theorem dX6_pass_28 : decode cX6_pass 28 = .ok (.aload_n 0, 1) := by decide +kernel
theorem dX6_pass_29 : decode cX6_pass 29 = .ok (.invokevirtual 157, 3) := by decide +kernel
theorem dX6_pass_32 : decode cX6_pass 32 = .ok (.iadd, 1) := by decide +kernel
theorem dX6_pass_33 : decode cX6_pass 33 = .ok (.istore_n 2, 1) := by decide +kernel
theorem dX6_pass_34 : decode cX6_pass 34 = .ok (.iinc 3 1, 3) := by decide +kernel
theorem dX6_pass_37 : decode cX6_pass 37 = .ok (.goto (-15), 3) := by decide +kernel
theorem dX6_pass_40 : decode cX6_pass 40 = .ok (.iload_n 2, 1) := by decide +kernel
theorem dX6_pass_41 : decode cX6_pass 41 = .ok (.ireturn, 1) := by decide +kernel
theorem dX6_clock_0 : decode cX6_clock 0 = .ok (.aload_n 0, 1) := by decide +kernel
theorem dX6_clock_1 : decode cX6_clock 1 = .ok (.iconst 0, 1) := by decide +kernel
theorem dX6_clock_2 : decode cX6_clock 2 = .ok (.putfield 40, 3) := by decide +kernel
theorem dX6_clock_5 : decode cX6_clock 5 = .ok (.aload_n 0, 1) := by decide +kernel
theorem dX6_clock_6 : decode cX6_clock 6 = .ok (.getfield 9, 3) := by decide +kernel
theorem dX6_clock_9 : decode cX6_clock 9 = .ok (.iconst 2, 1) := by decide +kernel
theorem dX6_clock_10 : decode cX6_clock 10 = .ok (.iaload, 1) := by decide +kernel
theorem dX6_clock_11 : decode cX6_clock 11 = .ok (.ireturn, 1) := by decide +kernel
set_option maxRecDepth 20000 in
theorem ggX6_addBoat_X6_isWithin : GoodIn wsX6_addBoat wsX6_isWithin := goodIn_r _ [9] (by decide +kernel) (by decide +kernel)
set_option maxRecDepth 20000 in
theorem gX6_addBoat_X6_isWithin : GoodIn wsX6_addBoat (va_wsS RX6 52 yX6_isWithin wsX6_isWithin) := goodIn_app (goodIn_of _ (by decide +kernel)) ggX6_addBoat_X6_isWithin
set_option maxRecDepth 20000 in
theorem ggX6_addBoat_X6_depth : GoodIn wsX6_addBoat wsX6_depth := goodIn_r _ [13, 4, 14, 15, 16, 17, 18, 24, 25, 26, 27, 28, 29, 30, 31, 32, 33, 34] (by decide +kernel) (by decide +kernel)
set_option maxRecDepth 20000 in
theorem gX6_addBoat_X6_depth : GoodIn wsX6_addBoat (wsV RX6 62 RX6 yX6_depth wsX6_depth) := goodIn_app (goodIn_of _ (by decide +kernel)) ggX6_addBoat_X6_depth
set_option maxRecDepth 20000 in
theorem ggX6_addBoat_X6_check : GoodIn wsX6_addBoat wsX6_check := goodIn_r _ [22, 23, 24, 25, 26, 27, 28, 29, 30, 31, 32, 33, 34] (by decide +kernel) (by decide +kernel)
set_option maxRecDepth 20000 in
theorem gX6_addBoat_X6_check : GoodIn wsX6_addBoat (wsV RX6 144 RX6 yX6_check wsX6_check) := goodIn_app (goodIn_of _ (by decide +kernel)) ggX6_addBoat_X6_check
theorem dX6_addBoat_0 : decode cX6_addBoat 0 = .ok (.iload_n 1, 1) := by decide +kernel
theorem dX6_addBoat_1 : decode cX6_addBoat 1 = .ok (.iconst 5, 1) := by decide +kernel
theorem dX6_addBoat_2 : decode cX6_addBoat 2 = .ok (.bipush 60, 2) := by decide +kernel
theorem dX6_addBoat_4 : decode cX6_addBoat 4 = .ok (.invokestatic 52, 3) := by decide +kernel
theorem dX6_addBoat_7 : decode cX6_addBoat 7 = .ok (.ifCond .eq 17, 3) := by decide +kernel
theorem dX6_addBoat_10 : decode cX6_addBoat 10 = .ok (.iload_n 2, 1) := by decide +kernel
theorem dX6_addBoat_11 : decode cX6_addBoat 11 = .ok (.iconst 1, 1) := by decide +kernel
theorem dX6_addBoat_12 : decode cX6_addBoat 12 = .ok (.bipush 19, 2) := by decide +kernel
theorem dX6_addBoat_14 : decode cX6_addBoat 14 = .ok (.invokestatic 52, 3) := by decide +kernel
theorem dX6_addBoat_17 : decode cX6_addBoat 17 = .ok (.ifCond .eq 7, 3) := by decide +kernel
theorem dX6_addBoat_20 : decode cX6_addBoat 20 = .ok (.iconst 1, 1) := by decide +kernel
theorem dX6_addBoat_21 : decode cX6_addBoat 21 = .ok (.goto 4, 3) := by decide +kernel
theorem dX6_addBoat_24 : decode cX6_addBoat 24 = .ok (.iconst 0, 1) := by decide +kernel
theorem dX6_addBoat_25 : decode cX6_addBoat 25 = .ok (.istore 4, 2) := by decide +kernel
theorem dX6_addBoat_27 : decode cX6_addBoat 27 = .ok (.aload_n 0, 1) := by decide +kernel
theorem dX6_addBoat_28 : decode cX6_addBoat 28 = .ok (.iload 4, 2) := by decide +kernel
theorem dX6_addBoat_30 : decode cX6_addBoat 30 = .ok (.aload_n 0, 1) := by decide +kernel
theorem dX6_addBoat_31 : decode cX6_addBoat 31 = .ok (.getfield 56, 3) := by decide +kernel
theorem dX6_addBoat_34 : decode cX6_addBoat 34 = .ok (.bipush 10, 2) := by decide +kernel
theorem dX6_addBoat_36 : decode cX6_addBoat 36 = .ok (.if_icmp .ge 19, 3) := by decide +kernel
theorem dX6_addBoat_39 : decode cX6_addBoat 39 = .ok (.iload_n 3, 1) := by decide +kernel
theorem dX6_addBoat_40 : decode cX6_addBoat 40 = .ok (.ifCond .eq 11, 3) := by decide +kernel
theorem dX6_addBoat_43 : decode cX6_addBoat 43 = .ok (.aload_n 0, 1) := by decide +kernel
theorem dX6_addBoat_44 : decode cX6_addBoat 44 = .ok (.invokevirtual 62, 3) := by decide +kernel
theorem dX6_addBoat_47 : decode cX6_addBoat 47 = .ok (.iload_n 2, 1) := by decide +kernel
theorem dX6_addBoat_48 : decode cX6_addBoat 48 = .ok (.if_icmp .lt 7, 3) := by decide +kernel
theorem dX6_addBoat_51 : decode cX6_addBoat 51 = .ok (.iconst 1, 1) := by decide +kernel
theorem dX6_addBoat_52 : decode cX6_addBoat 52 = .ok (.goto 4, 3) := by decide +kernel
theorem dX6_addBoat_55 : decode cX6_addBoat 55 = .ok (.iconst 0, 1) := by decide +kernel
theorem dX6_addBoat_56 : decode cX6_addBoat 56 = .ok (.iconst 1, 1) := by decide +kernel
theorem dX6_addBoat_57 : decode cX6_addBoat 57 = .ok (.invokevirtual 144, 3) := by decide +kernel
theorem dX6_addBoat_60 : decode cX6_addBoat 60 = .ok (.ifCond .ne 5, 3) := by decide +kernel
theorem dX6_addBoat_63 : decode cX6_addBoat 63 = .ok (.iconst 0, 1) := by decide +kernel
theorem dX6_addBoat_64 : decode cX6_addBoat 64 = .ok (.ireturn, 1) := by decide +kernel
theorem dX6_addBoat_65 : decode cX6_addBoat 65 = .ok (.aload_n 0, 1) := by decide +kernel
theorem dX6_addBoat_66 : decode cX6_addBoat 66 = .ok (.getfield 16, 3) := by decide +kernel
theorem dX6_addBoat_69 : decode cX6_addBoat 69 = .ok (.aload_n 0, 1) := by decide +kernel
theorem dX6_addBoat_70 : decode cX6_addBoat 70 = .ok (.getfield 56, 3) := by decide +kernel
theorem dX6_addBoat_73 : decode cX6_addBoat 73 = .ok (.iload_n 1, 1) := by decide +kernel
theorem dX6_addBoat_74 : decode cX6_addBoat 74 = .ok (.iastore, 1) := by decide +kernel
theorem dX6_addBoat_75 : decode cX6_addBoat 75 = .ok (.aload_n 0, 1) := by decide +kernel
theorem dX6_addBoat_76 : decode cX6_addBoat 76 = .ok (.getfield 19, 3) := by decide +kernel
theorem dX6_addBoat_79 : decode cX6_addBoat 79 = .ok (.aload_n 0, 1) := by decide +kernel
theorem dX6_addBoat_80 : decode cX6_addBoat 80 = .ok (.getfield 56, 3) := by decide +kernel
theorem dX6_addBoat_83 : decode cX6_addBoat 83 = .ok (.iload_n 2, 1) := by decide +kernel
theorem dX6_addBoat_84 : decode cX6_addBoat 84 = .ok (.iastore, 1) := by decide +kernel
theorem dX6_addBoat_85 : decode cX6_addBoat 85 = .ok (.aload_n 0, 1) := by decide +kernel
theorem dX6_addBoat_86 : decode cX6_addBoat 86 = .ok (.getfield 9, 3) := by decide +kernel
theorem dX6_addBoat_89 : decode cX6_addBoat 89 = .ok (.bipush 23, 2) := by decide +kernel
theorem dX6_addBoat_91 : decode cX6_addBoat 91 = .ok (.aload_n 0, 1) := by decide +kernel
theorem dX6_addBoat_92 : decode cX6_addBoat 92 = .ok (.getfield 56, 3) := by decide +kernel
theorem dX6_addBoat_95 : decode cX6_addBoat 95 = .ok (.iadd, 1) := by decide +kernel
theorem dX6_addBoat_96 : decode cX6_addBoat 96 = .ok (.iload_n 3, 1) := by decide +kernel
theorem dX6_addBoat_97 : decode cX6_addBoat 97 = .ok (.ifCond .eq 12, 3) := by decide +kernel
theorem dX6_addBoat_100 : decode cX6_addBoat 100 = .ok (.aload_n 0, 1) := by decide +kernel
theorem dX6_addBoat_101 : decode cX6_addBoat 101 = .ok (.getfield 26, 3) := by decide +kernel
theorem dX6_addBoat_104 : decode cX6_addBoat 104 = .ok (.iconst 1, 1) := by decide +kernel
theorem dX6_addBoat_105 : decode cX6_addBoat 105 = .ok (.iadd, 1) := by decide +kernel
theorem dX6_addBoat_106 : decode cX6_addBoat 106 = .ok (.goto 4, 3) := by decide +kernel
theorem dX6_addBoat_109 : decode cX6_addBoat 109 = .ok (.iconst 0, 1) := by decide +kernel
theorem dX6_addBoat_110 : decode cX6_addBoat 110 = .ok (.iastore, 1) := by decide +kernel
theorem dX6_addBoat_111 : decode cX6_addBoat 111 = .ok (.aload_n 0, 1) := by decide +kernel
theorem dX6_addBoat_112 : decode cX6_addBoat 112 = .ok (.dup, 1) := by decide +kernel
theorem dX6_addBoat_113 : decode cX6_addBoat 113 = .ok (.getfield 56, 3) := by decide +kernel
theorem dX6_addBoat_116 : decode cX6_addBoat 116 = .ok (.iconst 1, 1) := by decide +kernel
theorem dX6_addBoat_117 : decode cX6_addBoat 117 = .ok (.iadd, 1) := by decide +kernel
theorem dX6_addBoat_118 : decode cX6_addBoat 118 = .ok (.putfield 56, 3) := by decide +kernel
theorem dX6_addBoat_121 : decode cX6_addBoat 121 = .ok (.aload_n 0, 1) := by decide +kernel
theorem dX6_addBoat_122 : decode cX6_addBoat 122 = .ok (.getfield 56, 3) := by decide +kernel
theorem dX6_addBoat_125 : decode cX6_addBoat 125 = .ok (.iconst 1, 1) := by decide +kernel
theorem dX6_addBoat_126 : decode cX6_addBoat 126 = .ok (.isub, 1) := by decide +kernel
theorem dX6_addBoat_127 : decode cX6_addBoat 127 = .ok (.ireturn, 1) := by decide +kernel
theorem dX6_boatCount_0 : decode cX6_boatCount 0 = .ok (.aload_n 0, 1) := by decide +kernel
theorem dX6_boatCount_1 : decode cX6_boatCount 1 = .ok (.iconst 0, 1) := by decide +kernel
theorem dX6_boatCount_2 : decode cX6_boatCount 2 = .ok (.putfield 40, 3) := by decide +kernel
theorem dX6_boatCount_5 : decode cX6_boatCount 5 = .ok (.aload_n 0, 1) := by decide +kernel
theorem dX6_boatCount_6 : decode cX6_boatCount 6 = .ok (.getfield 56, 3) := by decide +kernel
theorem dX6_boatCount_9 : decode cX6_boatCount 9 = .ok (.ireturn, 1) := by decide +kernel
set_option maxRecDepth 20000 in
theorem ggX6_placeOf_X6_isBoat : GoodIn wsX6_placeOf wsX6_isBoat := goodIn_r _ [6, 7, 8, 9, 5, 10, 16, 17, 18, 19, 20, 21, 22, 23, 24, 25, 26] (by decide +kernel) (by decide +kernel)
set_option maxRecDepth 20000 in
theorem gX6_placeOf_X6_isBoat : GoodIn wsX6_placeOf (wsV RX6 160 RX6 yX6_isBoat wsX6_isBoat) := goodIn_app (goodIn_of _ (by decide +kernel)) ggX6_placeOf_X6_isBoat
set_option maxRecDepth 20000 in
theorem ggX6_placeOf_X6_check : GoodIn wsX6_placeOf wsX6_check := goodIn_r _ [14, 15, 16, 17, 18, 19, 20, 21, 22, 23, 24, 25, 26] (by decide +kernel) (by decide +kernel)
set_option maxRecDepth 20000 in
theorem gX6_placeOf_X6_check : GoodIn wsX6_placeOf (wsV RX6 144 RX6 yX6_check wsX6_check) := goodIn_app (goodIn_of _ (by decide +kernel)) ggX6_placeOf_X6_check
theorem dX6_placeOf_0 : decode cX6_placeOf 0 = .ok (.aload_n 0, 1) := by decide +kernel
theorem dX6_placeOf_1 : decode cX6_placeOf 1 = .ok (.aload_n 0, 1) := by decide +kernel
theorem dX6_placeOf_2 : decode cX6_placeOf 2 = .ok (.iload_n 1, 1) := by decide +kernel
theorem dX6_placeOf_3 : decode cX6_placeOf 3 = .ok (.invokevirtual 160, 3) := by decide +kernel
theorem dX6_placeOf_6 : decode cX6_placeOf 6 = .ok (.iconst 1, 1) := by decide +kernel
theorem dX6_placeOf_7 : decode cX6_placeOf 7 = .ok (.iconst 1, 1) := by decide +kernel
theorem dX6_placeOf_8 : decode cX6_placeOf 8 = .ok (.invokevirtual 144, 3) := by decide +kernel
theorem dX6_placeOf_11 : decode cX6_placeOf 11 = .ok (.ifCond .eq 15, 3) := by decide +kernel
theorem dX6_placeOf_14 : decode cX6_placeOf 14 = .ok (.aload_n 0, 1) := by decide +kernel
theorem dX6_placeOf_15 : decode cX6_placeOf 15 = .ok (.getfield 9, 3) := by decide +kernel
theorem dX6_placeOf_18 : decode cX6_placeOf 18 = .ok (.bipush 23, 2) := by decide +kernel
theorem dX6_placeOf_20 : decode cX6_placeOf 20 = .ok (.iload_n 1, 1) := by decide +kernel
theorem dX6_placeOf_21 : decode cX6_placeOf 21 = .ok (.iadd, 1) := by decide +kernel
theorem dX6_placeOf_22 : decode cX6_placeOf 22 = .ok (.iaload, 1) := by decide +kernel
theorem dX6_placeOf_23 : decode cX6_placeOf 23 = .ok (.goto 4, 3) := by decide +kernel
theorem dX6_placeOf_26 : decode cX6_placeOf 26 = .ok (.iconst 0, 1) := by decide +kernel
theorem dX6_placeOf_27 : decode cX6_placeOf 27 = .ok (.ireturn, 1) := by decide +kernel
set_option maxRecDepth 20000 in
theorem ggX6_boatsAt_X6_isPlace : GoodIn wsX6_boatsAt wsX6_isPlace := goodIn_r _ [7, 8, 9, 10, 6, 11, 17, 18, 19, 20, 21, 22, 23, 24, 25, 26, 27] (by decide +kernel) (by decide +kernel)
set_option maxRecDepth 20000 in
theorem gX6_boatsAt_X6_isPlace : GoodIn wsX6_boatsAt (wsV RX6 125 RX6 yX6_isPlace wsX6_isPlace) := goodIn_app (goodIn_of _ (by decide +kernel)) ggX6_boatsAt_X6_isPlace
set_option maxRecDepth 20000 in
theorem ggX6_boatsAt_X6_check : GoodIn wsX6_boatsAt wsX6_check := goodIn_r _ [15, 16, 17, 18, 19, 20, 21, 22, 23, 24, 25, 26, 27] (by decide +kernel) (by decide +kernel)
set_option maxRecDepth 20000 in
theorem gX6_boatsAt_X6_check : GoodIn wsX6_boatsAt (wsV RX6 144 RX6 yX6_check wsX6_check) := goodIn_app (goodIn_of _ (by decide +kernel)) ggX6_boatsAt_X6_check
theorem dX6_boatsAt_0 : decode cX6_boatsAt 0 = .ok (.aload_n 0, 1) := by decide +kernel
theorem dX6_boatsAt_1 : decode cX6_boatsAt 1 = .ok (.aload_n 0, 1) := by decide +kernel
theorem dX6_boatsAt_2 : decode cX6_boatsAt 2 = .ok (.iload_n 1, 1) := by decide +kernel
theorem dX6_boatsAt_3 : decode cX6_boatsAt 3 = .ok (.invokevirtual 125, 3) := by decide +kernel
theorem dX6_boatsAt_6 : decode cX6_boatsAt 6 = .ok (.iconst 1, 1) := by decide +kernel
theorem dX6_boatsAt_7 : decode cX6_boatsAt 7 = .ok (.iconst 1, 1) := by decide +kernel
theorem dX6_boatsAt_8 : decode cX6_boatsAt 8 = .ok (.invokevirtual 144, 3) := by decide +kernel
theorem dX6_boatsAt_11 : decode cX6_boatsAt 11 = .ok (.ifCond .ne 5, 3) := by decide +kernel
theorem dX6_boatsAt_14 : decode cX6_boatsAt 14 = .ok (.iconst 0, 1) := by decide +kernel
theorem dX6_boatsAt_15 : decode cX6_boatsAt 15 = .ok (.ireturn, 1) := by decide +kernel
theorem dX6_boatsAt_16 : decode cX6_boatsAt 16 = .ok (.iconst 0, 1) := by decide +kernel
theorem dX6_boatsAt_17 : decode cX6_boatsAt 17 = .ok (.istore_n 2, 1) := by decide +kernel
theorem dX6_boatsAt_18 : decode cX6_boatsAt 18 = .ok (.iconst 0, 1) := by decide +kernel
theorem dX6_boatsAt_19 : decode cX6_boatsAt 19 = .ok (.istore_n 3, 1) := by decide +kernel
theorem dX6_boatsAt_20 : decode cX6_boatsAt 20 = .ok (.iload_n 3, 1) := by decide +kernel
theorem dX6_boatsAt_21 : decode cX6_boatsAt 21 = .ok (.aload_n 0, 1) := by decide +kernel
theorem dX6_boatsAt_22 : decode cX6_boatsAt 22 = .ok (.getfield 56, 3) := by decide +kernel
theorem dX6_boatsAt_25 : decode cX6_boatsAt 25 = .ok (.if_icmp .ge 30, 3) := by decide +kernel
theorem dX6_boatsAt_28 : decode cX6_boatsAt 28 = .ok (.iload_n 2, 1) := by decide +kernel
theorem dX6_boatsAt_29 : decode cX6_boatsAt 29 = .ok (.aload_n 0, 1) := by decide +kernel
theorem dX6_boatsAt_30 : decode cX6_boatsAt 30 = .ok (.getfield 9, 3) := by decide +kernel
theorem dX6_boatsAt_33 : decode cX6_boatsAt 33 = .ok (.bipush 23, 2) := by decide +kernel
theorem dX6_boatsAt_35 : decode cX6_boatsAt 35 = .ok (.iload_n 3, 1) := by decide +kernel
theorem dX6_boatsAt_36 : decode cX6_boatsAt 36 = .ok (.iadd, 1) := by decide +kernel
theorem dX6_boatsAt_37 : decode cX6_boatsAt 37 = .ok (.iaload, 1) := by decide +kernel
theorem dX6_boatsAt_38 : decode cX6_boatsAt 38 = .ok (.iload_n 1, 1) := by decide +kernel
theorem dX6_boatsAt_39 : decode cX6_boatsAt 39 = .ok (.if_icmp .ne 7, 3) := by decide +kernel
theorem dX6_boatsAt_42 : decode cX6_boatsAt 42 = .ok (.iconst 1, 1) := by decide +kernel
theorem dX6_boatsAt_43 : decode cX6_boatsAt 43 = .ok (.goto 4, 3) := by decide +kernel
theorem dX6_boatsAt_46 : decode cX6_boatsAt 46 = .ok (.iconst 0, 1) := by decide +kernel
theorem dX6_boatsAt_47 : decode cX6_boatsAt 47 = .ok (.iadd, 1) := by decide +kernel
theorem dX6_boatsAt_48 : decode cX6_boatsAt 48 = .ok (.istore_n 2, 1) := by decide +kernel
theorem dX6_boatsAt_49 : decode cX6_boatsAt 49 = .ok (.iinc 3 1, 3) := by decide +kernel
theorem dX6_boatsAt_52 : decode cX6_boatsAt 52 = .ok (.goto (-32), 3) := by decide +kernel
theorem dX6_boatsAt_55 : decode cX6_boatsAt 55 = .ok (.iload_n 2, 1) := by decide +kernel
theorem dX6_boatsAt_56 : decode cX6_boatsAt 56 = .ok (.ireturn, 1) := by decide +kernel
set_option maxRecDepth 20000 in
theorem ggX6_freeLength_X6_isChamber : GoodIn wsX6_freeLength wsX6_isChamber := goodIn_r _ [5, 6, 7, 8, 4, 9, 22, 23, 24, 25, 26, 27, 28, 29, 30, 31, 32] (by decide +kernel) (by decide +kernel)
set_option maxRecDepth 20000 in
theorem gX6_freeLength_X6_isChamber : GoodIn wsX6_freeLength (wsV RX6 141 RX6 yX6_isChamber wsX6_isChamber) := goodIn_app (goodIn_of _ (by decide +kernel)) ggX6_freeLength_X6_isChamber
set_option maxRecDepth 20000 in
theorem ggX6_freeLength_X6_check : GoodIn wsX6_freeLength wsX6_check := goodIn_r _ [13, 14, 22, 23, 24, 25, 26, 27, 28, 29, 30, 31, 32] (by decide +kernel) (by decide +kernel)
set_option maxRecDepth 20000 in
theorem gX6_freeLength_X6_check : GoodIn wsX6_freeLength (wsV RX6 144 RX6 yX6_check wsX6_check) := goodIn_app (goodIn_of _ (by decide +kernel)) ggX6_freeLength_X6_check
set_option maxRecDepth 20000 in
theorem ggX6_freeLength_X6_lengthIn : GoodIn wsX6_freeLength wsX6_lengthIn := goodIn_r _ [18, 19, 20, 21, 22, 23, 24, 25, 26, 27, 28, 29, 30, 31, 32] (by decide +kernel) (by decide +kernel)
set_option maxRecDepth 20000 in
theorem gX6_freeLength_X6_lengthIn : GoodIn wsX6_freeLength (wsV RX6 118 RX6 yX6_lengthIn wsX6_lengthIn) := goodIn_app (goodIn_of _ (by decide +kernel)) ggX6_freeLength_X6_lengthIn
theorem dX6_freeLength_0 : decode cX6_freeLength 0 = .ok (.aload_n 0, 1) := by decide +kernel
theorem dX6_freeLength_1 : decode cX6_freeLength 1 = .ok (.aload_n 0, 1) := by decide +kernel
theorem dX6_freeLength_2 : decode cX6_freeLength 2 = .ok (.iload_n 1, 1) := by decide +kernel
theorem dX6_freeLength_3 : decode cX6_freeLength 3 = .ok (.invokevirtual 141, 3) := by decide +kernel
theorem dX6_freeLength_6 : decode cX6_freeLength 6 = .ok (.iconst 1, 1) := by decide +kernel
theorem dX6_freeLength_7 : decode cX6_freeLength 7 = .ok (.iconst 1, 1) := by decide +kernel
theorem dX6_freeLength_8 : decode cX6_freeLength 8 = .ok (.invokevirtual 144, 3) := by decide +kernel
theorem dX6_freeLength_11 : decode cX6_freeLength 11 = .ok (.ifCond .eq 14, 3) := by decide +kernel
theorem dX6_freeLength_14 : decode cX6_freeLength 14 = .ok (.bipush 60, 2) := by decide +kernel
theorem dX6_freeLength_16 : decode cX6_freeLength 16 = .ok (.aload_n 0, 1) := by decide +kernel
theorem dX6_freeLength_17 : decode cX6_freeLength 17 = .ok (.iload_n 1, 1) := by decide +kernel
theorem dX6_freeLength_18 : decode cX6_freeLength 18 = .ok (.invokevirtual 118, 3) := by decide +kernel
theorem dX6_freeLength_21 : decode cX6_freeLength 21 = .ok (.isub, 1) := by decide +kernel
theorem dX6_freeLength_22 : decode cX6_freeLength 22 = .ok (.goto 4, 3) := by decide +kernel
theorem dX6_freeLength_25 : decode cX6_freeLength 25 = .ok (.iconst 0, 1) := by decide +kernel
theorem dX6_freeLength_26 : decode cX6_freeLength 26 = .ok (.ireturn, 1) := by decide +kernel
set_option maxRecDepth 20000 in
theorem ggX6_moveObstacle_X6_isBoat : GoodIn wsX6_moveObstacle wsX6_isBoat := goodIn_r _ [5, 6, 7, 8, 4, 9, 60, 61, 62, 63, 64, 65, 66, 67, 68, 69, 70] (by decide +kernel) (by decide +kernel)
set_option maxRecDepth 20000 in
theorem gX6_moveObstacle_X6_isBoat : GoodIn wsX6_moveObstacle (wsV RX6 160 RX6 yX6_isBoat wsX6_isBoat) := goodIn_app (goodIn_of _ (by decide +kernel)) ggX6_moveObstacle_X6_isBoat
set_option maxRecDepth 20000 in
theorem ggX6_moveObstacle_X6_check : GoodIn wsX6_moveObstacle wsX6_check := goodIn_r _ [13, 14, 60, 61, 62, 63, 64, 65, 66, 67, 68, 69, 70] (by decide +kernel) (by decide +kernel)
set_option maxRecDepth 20000 in
theorem gX6_moveObstacle_X6_check : GoodIn wsX6_moveObstacle (wsV RX6 144 RX6 yX6_check wsX6_check) := goodIn_app (goodIn_of _ (by decide +kernel)) ggX6_moveObstacle_X6_check
set_option maxRecDepth 20000 in
theorem ggX6_moveObstacle_X6_obstacleToMove : GoodIn wsX6_moveObstacle wsX6_obstacleToMove := goodIn_r _ [18, 19, 20, 21, 4, 22, 23, 24, 25, 26, 27, 28, 7, 8, 9, 29, 30, 31, 32, 33, 34, 35, 36, 37, 38, 39, 40, 41, 42, 43, 44, 45, 46, 47, 48, 49, 50, 6, 51, 52, 53, 54, 55, 56, 57, 58, 59, 60, 61, 62, 63, 64, 65, 66, 67, 68, 69, 70] (by decide +kernel) (by decide +kernel)
set_option maxRecDepth 20000 in
theorem gX6_moveObstacle_X6_obstacleToMove : GoodIn wsX6_moveObstacle (wsV RX6 163 RX6 yX6_obstacleToMove wsX6_obstacleToMove) := goodIn_app (goodIn_of _ (by decide +kernel)) ggX6_moveObstacle_X6_obstacleToMove
theorem dX6_moveObstacle_0 : decode cX6_moveObstacle 0 = .ok (.aload_n 0, 1) := by decide +kernel
theorem dX6_moveObstacle_1 : decode cX6_moveObstacle 1 = .ok (.aload_n 0, 1) := by decide +kernel
theorem dX6_moveObstacle_2 : decode cX6_moveObstacle 2 = .ok (.iload_n 1, 1) := by decide +kernel
theorem dX6_moveObstacle_3 : decode cX6_moveObstacle 3 = .ok (.invokevirtual 160, 3) := by decide +kernel
theorem dX6_moveObstacle_6 : decode cX6_moveObstacle 6 = .ok (.iconst 1, 1) := by decide +kernel
theorem dX6_moveObstacle_7 : decode cX6_moveObstacle 7 = .ok (.iconst 1, 1) := by decide +kernel
theorem dX6_moveObstacle_8 : decode cX6_moveObstacle 8 = .ok (.invokevirtual 144, 3) := by decide +kernel
theorem dX6_moveObstacle_11 : decode cX6_moveObstacle 11 = .ok (.ifCond .eq 12, 3) := by decide +kernel
theorem dX6_moveObstacle_14 : decode cX6_moveObstacle 14 = .ok (.aload_n 0, 1) := by decide +kernel
theorem dX6_moveObstacle_15 : decode cX6_moveObstacle 15 = .ok (.iload_n 1, 1) := by decide +kernel
theorem dX6_moveObstacle_16 : decode cX6_moveObstacle 16 = .ok (.iload_n 2, 1) := by decide +kernel
theorem dX6_moveObstacle_17 : decode cX6_moveObstacle 17 = .ok (.invokevirtual 163, 3) := by decide +kernel
theorem dX6_moveObstacle_20 : decode cX6_moveObstacle 20 = .ok (.goto 4, 3) := by decide +kernel
theorem dX6_moveObstacle_23 : decode cX6_moveObstacle 23 = .ok (.iconst 0, 1) := by decide +kernel
theorem dX6_moveObstacle_24 : decode cX6_moveObstacle 24 = .ok (.ireturn, 1) := by decide +kernel
set_option maxRecDepth 20000 in
theorem ggX6_move_X6_isBoat : GoodIn wsX6_move wsX6_isBoat := goodIn_r _ [6, 7, 8, 9, 5, 10, 60, 61, 62, 63, 64, 65, 66, 67, 68, 69, 70] (by decide +kernel) (by decide +kernel)
set_option maxRecDepth 20000 in
theorem gX6_move_X6_isBoat : GoodIn wsX6_move (wsV RX6 160 RX6 yX6_isBoat wsX6_isBoat) := goodIn_app (goodIn_of _ (by decide +kernel)) ggX6_move_X6_isBoat
set_option maxRecDepth 20000 in
theorem ggX6_move_X6_obstacleToMove : GoodIn wsX6_move wsX6_obstacleToMove := goodIn_r _ [14, 15, 16, 17, 5, 18, 1, 19, 20, 21, 22, 23, 8, 9, 10, 24, 25, 26, 27, 28, 29, 30, 31, 32, 33, 34, 35, 36, 37, 38, 39, 40, 41, 42, 43, 44, 45, 7, 46, 47, 48, 49, 50, 51, 52, 53, 54, 60, 61, 62, 63, 64, 65, 66, 67, 68, 69, 70] (by decide +kernel) (by decide +kernel)
set_option maxRecDepth 20000 in
theorem gX6_move_X6_obstacleToMove : GoodIn wsX6_move (wsV RX6 163 RX6 yX6_obstacleToMove wsX6_obstacleToMove) := goodIn_app (goodIn_of _ (by decide +kernel)) ggX6_move_X6_obstacleToMove
set_option maxRecDepth 20000 in
theorem ggX6_move_X6_check : GoodIn wsX6_move wsX6_check := goodIn_r _ [58, 59, 60, 61, 62, 63, 64, 65, 66, 67, 68, 69, 70] (by decide +kernel) (by decide +kernel)
set_option maxRecDepth 20000 in
theorem gX6_move_X6_check : GoodIn wsX6_move (wsV RX6 144 RX6 yX6_check wsX6_check) := goodIn_app (goodIn_of _ (by decide +kernel)) ggX6_move_X6_check
set_option maxRecDepth 20000 in
theorem ggX6_move_X6_target : GoodIn wsX6_move wsX6_target := goodIn_r _ [18, 1, 60, 61, 62, 63, 64, 65, 66, 67, 68, 69, 70] (by decide +kernel) (by decide +kernel)
set_option maxRecDepth 20000 in
theorem gX6_move_X6_target : GoodIn wsX6_move (wsV RX6 121 RX6 yX6_target wsX6_target) := goodIn_app (goodIn_of _ (by decide +kernel)) ggX6_move_X6_target
theorem dX6_move_0 : decode cX6_move 0 = .ok (.aload_n 0, 1) := by decide +kernel
theorem dX6_move_1 : decode cX6_move 1 = .ok (.iload_n 1, 1) := by decide +kernel
theorem dX6_move_2 : decode cX6_move 2 = .ok (.invokevirtual 160, 3) := by decide +kernel
theorem dX6_move_5 : decode cX6_move 5 = .ok (.istore_n 3, 1) := by decide +kernel
theorem dX6_move_6 : decode cX6_move 6 = .ok (.aload_n 0, 1) := by decide +kernel
theorem dX6_move_7 : decode cX6_move 7 = .ok (.iload_n 3, 1) := by decide +kernel
theorem dX6_move_8 : decode cX6_move 8 = .ok (.iload_n 3, 1) := by decide +kernel
theorem dX6_move_9 : decode cX6_move 9 = .ok (.ifCond .eq 12, 3) := by decide +kernel
theorem dX6_move_12 : decode cX6_move 12 = .ok (.aload_n 0, 1) := by decide +kernel
theorem dX6_move_13 : decode cX6_move 13 = .ok (.iload_n 1, 1) := by decide +kernel
theorem dX6_move_14 : decode cX6_move 14 = .ok (.iload_n 2, 1) := by decide +kernel
theorem dX6_move_15 : decode cX6_move 15 = .ok (.invokevirtual 163, 3) := by decide +kernel
theorem dX6_move_18 : decode cX6_move 18 = .ok (.ifCond .ne 7, 3) := by decide +kernel
theorem dX6_move_21 : decode cX6_move 21 = .ok (.iconst 1, 1) := by decide +kernel
theorem dX6_move_22 : decode cX6_move 22 = .ok (.goto 4, 3) := by decide +kernel
theorem dX6_move_25 : decode cX6_move 25 = .ok (.iconst 0, 1) := by decide +kernel
theorem dX6_move_26 : decode cX6_move 26 = .ok (.iconst 1, 1) := by decide +kernel
theorem dX6_move_27 : decode cX6_move 27 = .ok (.invokevirtual 144, 3) := by decide +kernel
theorem dX6_move_30 : decode cX6_move 30 = .ok (.ifCond .ne 5, 3) := by decide +kernel
theorem dX6_move_33 : decode cX6_move 33 = .ok (.iconst 0, 1) := by decide +kernel
theorem dX6_move_34 : decode cX6_move 34 = .ok (.ireturn, 1) := by decide +kernel
theorem dX6_move_35 : decode cX6_move 35 = .ok (.aload_n 0, 1) := by decide +kernel
theorem dX6_move_36 : decode cX6_move 36 = .ok (.getfield 9, 3) := by decide +kernel
theorem dX6_move_39 : decode cX6_move 39 = .ok (.bipush 23, 2) := by decide +kernel
theorem dX6_move_41 : decode cX6_move 41 = .ok (.iload_n 1, 1) := by decide +kernel
theorem dX6_move_42 : decode cX6_move 42 = .ok (.iadd, 1) := by decide +kernel
theorem dX6_move_43 : decode cX6_move 43 = .ok (.aload_n 0, 1) := by decide +kernel
theorem dX6_move_44 : decode cX6_move 44 = .ok (.iload_n 1, 1) := by decide +kernel
theorem dX6_move_45 : decode cX6_move 45 = .ok (.iload_n 2, 1) := by decide +kernel
theorem dX6_move_46 : decode cX6_move 46 = .ok (.invokevirtual 121, 3) := by decide +kernel
theorem dX6_move_49 : decode cX6_move 49 = .ok (.iastore, 1) := by decide +kernel
theorem dX6_move_50 : decode cX6_move 50 = .ok (.aload_n 0, 1) := by decide +kernel
theorem dX6_move_51 : decode cX6_move 51 = .ok (.getfield 9, 3) := by decide +kernel
theorem dX6_move_54 : decode cX6_move 54 = .ok (.bipush 23, 2) := by decide +kernel
theorem dX6_move_56 : decode cX6_move 56 = .ok (.iload_n 1, 1) := by decide +kernel
theorem dX6_move_57 : decode cX6_move 57 = .ok (.iadd, 1) := by decide +kernel
theorem dX6_move_58 : decode cX6_move 58 = .ok (.iaload, 1) := by decide +kernel
theorem dX6_move_59 : decode cX6_move 59 = .ok (.ireturn, 1) := by decide +kernel
set_option maxRecDepth 20000 in
theorem ggX6_take_X6_isBoat : GoodIn wsX6_take wsX6_isBoat := goodIn_r _ [6, 7, 8, 9, 5, 10, 117, 118, 119, 120, 121, 122, 123, 124, 125, 126, 127] (by decide +kernel) (by decide +kernel)
set_option maxRecDepth 20000 in
theorem gX6_take_X6_isBoat : GoodIn wsX6_take (wsV RX6 160 RX6 yX6_isBoat wsX6_isBoat) := goodIn_app (goodIn_of _ (by decide +kernel)) ggX6_take_X6_isBoat
set_option maxRecDepth 20000 in
theorem ggX6_take_X6_check : GoodIn wsX6_take wsX6_check := goodIn_r _ [14, 15, 117, 118, 119, 120, 121, 122, 123, 124, 125, 126, 127] (by decide +kernel) (by decide +kernel)
set_option maxRecDepth 20000 in
theorem gX6_take_X6_check : GoodIn wsX6_take (wsV RX6 144 RX6 yX6_check wsX6_check) := goodIn_app (goodIn_of _ (by decide +kernel)) ggX6_take_X6_check
set_option maxRecDepth 20000 in
theorem ggX6_take_X6_takeOne : GoodIn wsX6_take wsX6_takeOne := goodIn_r _ [19, 1, 20, 21, 22, 23, 5, 24, 25, 26, 27, 28, 8, 9, 10, 29, 30, 31, 32, 33, 34, 35, 36, 37, 38, 39, 40, 41, 42, 43, 44, 45, 46, 47, 48, 49, 50, 51, 52, 53, 54, 55, 56, 57, 58, 59, 60, 61, 62, 63, 64, 65, 66, 67, 68, 69, 70, 71, 72, 73, 74, 75, 76, 77, 78, 79, 80, 81, 82, 83, 84, 85, 86, 87, 88, 89, 90, 91, 92, 93, 94, 95, 96, 97, 98, 99, 100, 101, 102, 103, 104, 105, 106, 107, 108, 109, 110, 111, 112, 113, 114, 115, 116, 7, 117, 118, 119, 120, 121, 122, 123, 124, 125, 126, 127] (by decide +kernel) (by decide +kernel)
set_option maxRecDepth 20000 in
theorem gX6_take_X6_takeOne : GoodIn wsX6_take (wsV RX6 166 RX6 yX6_takeOne wsX6_takeOne) := goodIn_app (goodIn_of _ (by decide +kernel)) ggX6_take_X6_takeOne
theorem dX6_take_0 : decode cX6_take 0 = .ok (.aload_n 0, 1) := by decide +kernel
theorem dX6_take_1 : decode cX6_take 1 = .ok (.aload_n 0, 1) := by decide +kernel
theorem dX6_take_2 : decode cX6_take 2 = .ok (.iload_n 1, 1) := by decide +kernel
theorem dX6_take_3 : decode cX6_take 3 = .ok (.invokevirtual 160, 3) := by decide +kernel
theorem dX6_take_6 : decode cX6_take 6 = .ok (.iconst 1, 1) := by decide +kernel
theorem dX6_take_7 : decode cX6_take 7 = .ok (.iconst 1, 1) := by decide +kernel
theorem dX6_take_8 : decode cX6_take 8 = .ok (.invokevirtual 144, 3) := by decide +kernel
theorem dX6_take_11 : decode cX6_take 11 = .ok (.ifCond .ne 5, 3) := by decide +kernel
theorem dX6_take_14 : decode cX6_take 14 = .ok (.iconst 0, 1) := by decide +kernel
theorem dX6_take_15 : decode cX6_take 15 = .ok (.ireturn, 1) := by decide +kernel
theorem dX6_take_16 : decode cX6_take 16 = .ok (.aload_n 0, 1) := by decide +kernel
theorem dX6_take_17 : decode cX6_take 17 = .ok (.iload_n 1, 1) := by decide +kernel
theorem dX6_take_18 : decode cX6_take 18 = .ok (.iload_n 2, 1) := by decide +kernel
theorem dX6_take_19 : decode cX6_take 19 = .ok (.invokevirtual 166, 3) := by decide +kernel
theorem dX6_take_22 : decode cX6_take 22 = .ok (.istore_n 3, 1) := by decide +kernel
theorem dX6_take_23 : decode cX6_take 23 = .ok (.aload_n 0, 1) := by decide +kernel
theorem dX6_take_24 : decode cX6_take 24 = .ok (.getfield 9, 3) := by decide +kernel
theorem dX6_take_27 : decode cX6_take 27 = .ok (.bipush 23, 2) := by decide +kernel
theorem dX6_take_29 : decode cX6_take 29 = .ok (.iload_n 1, 1) := by decide +kernel
theorem dX6_take_30 : decode cX6_take 30 = .ok (.iadd, 1) := by decide +kernel
theorem dX6_take_31 : decode cX6_take 31 = .ok (.iaload, 1) := by decide +kernel
theorem dX6_take_32 : decode cX6_take 32 = .ok (.ireturn, 1) := by decide +kernel
theorem dX6_reportLength_0 : decode cX6_reportLength 0 = .ok (.aload_n 0, 1) := by decide +kernel
theorem dX6_reportLength_1 : decode cX6_reportLength 1 = .ok (.iconst 0, 1) := by decide +kernel
theorem dX6_reportLength_2 : decode cX6_reportLength 2 = .ok (.putfield 40, 3) := by decide +kernel
theorem dX6_reportLength_5 : decode cX6_reportLength 5 = .ok (.aload_n 0, 1) := by decide +kernel
theorem dX6_reportLength_6 : decode cX6_reportLength 6 = .ok (.getfield 9, 3) := by decide +kernel
theorem dX6_reportLength_9 : decode cX6_reportLength 9 = .ok (.bipush 33, 2) := by decide +kernel
theorem dX6_reportLength_11 : decode cX6_reportLength 11 = .ok (.iaload, 1) := by decide +kernel
theorem dX6_reportLength_12 : decode cX6_reportLength 12 = .ok (.ireturn, 1) := by decide +kernel
set_option maxRecDepth 20000 in
theorem ggX6_reportKind_X6_isWithin : GoodIn wsX6_reportKind wsX6_isWithin := goodIn_r _ [6] (by decide +kernel) (by decide +kernel)
set_option maxRecDepth 20000 in
theorem gX6_reportKind_X6_isWithin : GoodIn wsX6_reportKind (va_wsS RX6 52 yX6_isWithin wsX6_isWithin) := goodIn_app (goodIn_of _ (by decide +kernel)) ggX6_reportKind_X6_isWithin
theorem dX6_reportKind_0 : decode cX6_reportKind 0 = .ok (.aload_n 0, 1) := by decide +kernel
theorem dX6_reportKind_1 : decode cX6_reportKind 1 = .ok (.iconst 0, 1) := by decide +kernel
theorem dX6_reportKind_2 : decode cX6_reportKind 2 = .ok (.putfield 40, 3) := by decide +kernel
theorem dX6_reportKind_5 : decode cX6_reportKind 5 = .ok (.iload_n 1, 1) := by decide +kernel
theorem dX6_reportKind_6 : decode cX6_reportKind 6 = .ok (.iconst 0, 1) := by decide +kernel
theorem dX6_reportKind_7 : decode cX6_reportKind 7 = .ok (.aload_n 0, 1) := by decide +kernel
theorem dX6_reportKind_8 : decode cX6_reportKind 8 = .ok (.getfield 9, 3) := by decide +kernel
theorem dX6_reportKind_11 : decode cX6_reportKind 11 = .ok (.bipush 33, 2) := by decide +kernel
theorem dX6_reportKind_13 : decode cX6_reportKind 13 = .ok (.iaload, 1) := by decide +kernel
theorem dX6_reportKind_14 : decode cX6_reportKind 14 = .ok (.iconst 1, 1) := by decide +kernel
theorem dX6_reportKind_15 : decode cX6_reportKind 15 = .ok (.isub, 1) := by decide +kernel
theorem dX6_reportKind_16 : decode cX6_reportKind 16 = .ok (.invokestatic 52, 3) := by decide +kernel
theorem dX6_reportKind_19 : decode cX6_reportKind 19 = .ok (.ifCond .eq 15, 3) := by decide +kernel
theorem dX6_reportKind_22 : decode cX6_reportKind 22 = .ok (.aload_n 0, 1) := by decide +kernel
theorem dX6_reportKind_23 : decode cX6_reportKind 23 = .ok (.getfield 9, 3) := by decide +kernel
theorem dX6_reportKind_26 : decode cX6_reportKind 26 = .ok (.bipush 34, 2) := by decide +kernel
theorem dX6_reportKind_28 : decode cX6_reportKind 28 = .ok (.iload_n 1, 1) := by decide +kernel
theorem dX6_reportKind_29 : decode cX6_reportKind 29 = .ok (.iadd, 1) := by decide +kernel
theorem dX6_reportKind_30 : decode cX6_reportKind 30 = .ok (.iaload, 1) := by decide +kernel
theorem dX6_reportKind_31 : decode cX6_reportKind 31 = .ok (.goto 4, 3) := by decide +kernel
theorem dX6_reportKind_34 : decode cX6_reportKind 34 = .ok (.iconst (-1), 1) := by decide +kernel
theorem dX6_reportKind_35 : decode cX6_reportKind 35 = .ok (.ireturn, 1) := by decide +kernel
set_option maxRecDepth 20000 in
theorem ggX6_reportNumber_X6_isWithin : GoodIn wsX6_reportNumber wsX6_isWithin := goodIn_r _ [6] (by decide +kernel) (by decide +kernel)
set_option maxRecDepth 20000 in
theorem gX6_reportNumber_X6_isWithin : GoodIn wsX6_reportNumber (va_wsS RX6 52 yX6_isWithin wsX6_isWithin) := goodIn_app (goodIn_of _ (by decide +kernel)) ggX6_reportNumber_X6_isWithin
theorem dX6_reportNumber_0 : decode cX6_reportNumber 0 = .ok (.aload_n 0, 1) := by decide +kernel
theorem dX6_reportNumber_1 : decode cX6_reportNumber 1 = .ok (.iconst 0, 1) := by decide +kernel
theorem dX6_reportNumber_2 : decode cX6_reportNumber 2 = .ok (.putfield 40, 3) := by decide +kernel
theorem dX6_reportNumber_5 : decode cX6_reportNumber 5 = .ok (.iload_n 1, 1) := by decide +kernel
theorem dX6_reportNumber_6 : decode cX6_reportNumber 6 = .ok (.iconst 0, 1) := by decide +kernel
theorem dX6_reportNumber_7 : decode cX6_reportNumber 7 = .ok (.aload_n 0, 1) := by decide +kernel
theorem dX6_reportNumber_8 : decode cX6_reportNumber 8 = .ok (.getfield 9, 3) := by decide +kernel
theorem dX6_reportNumber_11 : decode cX6_reportNumber 11 = .ok (.bipush 33, 2) := by decide +kernel
theorem dX6_reportNumber_13 : decode cX6_reportNumber 13 = .ok (.iaload, 1) := by decide +kernel
theorem dX6_reportNumber_14 : decode cX6_reportNumber 14 = .ok (.iconst 1, 1) := by decide +kernel
