theorem dX6_reportNumber_15 : decode cX6_reportNumber 15 = .ok (.isub, 1) := by decide +kernel
theorem dX6_reportNumber_16 : decode cX6_reportNumber 16 = .ok (.invokestatic 52, 3) := by decide +kernel
theorem dX6_reportNumber_19 : decode cX6_reportNumber 19 = .ok (.ifCond .eq 15, 3) := by decide +kernel
theorem dX6_reportNumber_22 : decode cX6_reportNumber 22 = .ok (.aload_n 0, 1) := by decide +kernel
theorem dX6_reportNumber_23 : decode cX6_reportNumber 23 = .ok (.getfield 9, 3) := by decide +kernel
theorem dX6_reportNumber_26 : decode cX6_reportNumber 26 = .ok (.bipush 42, 2) := by decide +kernel
theorem dX6_reportNumber_28 : decode cX6_reportNumber 28 = .ok (.iload_n 1, 1) := by decide +kernel
theorem dX6_reportNumber_29 : decode cX6_reportNumber 29 = .ok (.iadd, 1) := by decide +kernel
theorem dX6_reportNumber_30 : decode cX6_reportNumber 30 = .ok (.iaload, 1) := by decide +kernel
theorem dX6_reportNumber_31 : decode cX6_reportNumber 31 = .ok (.goto 4, 3) := by decide +kernel
theorem dX6_reportNumber_34 : decode cX6_reportNumber 34 = .ok (.iconst (-1), 1) := by decide +kernel
theorem dX6_reportNumber_35 : decode cX6_reportNumber 35 = .ok (.ireturn, 1) := by decide +kernel
set_option maxRecDepth 20000 in
theorem ggX6_minutesFor_X6_isBoat : GoodIn wsX6_minutesFor wsX6_isBoat := goodIn_r _ [6, 7, 8, 9, 5, 10, 126, 127, 128, 129, 130, 131, 132, 133, 134, 135, 136] (by decide +kernel) (by decide +kernel)
set_option maxRecDepth 20000 in
theorem gX6_minutesFor_X6_isBoat : GoodIn wsX6_minutesFor (wsV RX6 160 RX6 yX6_isBoat wsX6_isBoat) := goodIn_app (goodIn_of _ (by decide +kernel)) ggX6_minutesFor_X6_isBoat
set_option maxRecDepth 20000 in
theorem ggX6_minutesFor_X6_check : GoodIn wsX6_minutesFor wsX6_check := goodIn_r _ [14, 15, 126, 127, 128, 129, 130, 131, 132, 133, 134, 135, 136] (by decide +kernel) (by decide +kernel)
set_option maxRecDepth 20000 in
theorem gX6_minutesFor_X6_check : GoodIn wsX6_minutesFor (wsV RX6 144 RX6 yX6_check wsX6_check) := goodIn_app (goodIn_of _ (by decide +kernel)) ggX6_minutesFor_X6_check
set_option maxRecDepth 20000 in
theorem ggX6_minutesFor_X6_putAside : GoodIn wsX6_minutesFor wsX6_putAside := goodIn_r _ [19, 20, 1, 126, 127, 128, 129, 130, 131, 132, 133, 134, 135, 136] (by decide +kernel) (by decide +kernel)
set_option maxRecDepth 20000 in
theorem gX6_minutesFor_X6_putAside : GoodIn wsX6_minutesFor (wsV RX6 169 RX6 yX6_putAside wsX6_putAside) := goodIn_app (goodIn_of _ (by decide +kernel)) ggX6_minutesFor_X6_putAside
set_option maxRecDepth 20000 in
theorem ggX6_minutesFor_X6_takeOne : GoodIn wsX6_minutesFor wsX6_takeOne := goodIn_r _ [24, 1, 25, 26, 27, 28, 5, 29, 30, 31, 32, 33, 8, 9, 10, 34, 35, 36, 37, 38, 39, 40, 41, 42, 43, 44, 45, 46, 47, 48, 49, 50, 51, 52, 53, 54, 55, 56, 57, 58, 59, 60, 61, 62, 63, 64, 65, 66, 67, 68, 69, 70, 71, 72, 73, 74, 75, 76, 77, 78, 79, 80, 81, 82, 83, 84, 85, 86, 87, 88, 89, 90, 91, 92, 93, 94, 95, 96, 97, 98, 99, 100, 101, 102, 103, 104, 105, 106, 107, 108, 109, 110, 111, 112, 113, 114, 115, 116, 117, 118, 119, 120, 121, 7, 126, 127, 128, 129, 130, 131, 132, 133, 134, 135, 136] (by decide +kernel) (by decide +kernel)
set_option maxRecDepth 20000 in
theorem gX6_minutesFor_X6_takeOne : GoodIn wsX6_minutesFor (wsV RX6 166 RX6 yX6_takeOne wsX6_takeOne) := goodIn_app (goodIn_of _ (by decide +kernel)) ggX6_minutesFor_X6_takeOne
set_option maxRecDepth 20000 in
theorem ggX6_minutesFor_X6_takeBack : GoodIn wsX6_minutesFor wsX6_takeBack := goodIn_r _ [125, 1, 20, 126, 127, 128, 129, 130, 131, 132, 133, 134, 135, 136] (by decide +kernel) (by decide +kernel)
set_option maxRecDepth 20000 in
theorem gX6_minutesFor_X6_takeBack : GoodIn wsX6_minutesFor (wsV RX6 172 RX6 yX6_takeBack wsX6_takeBack) := goodIn_app (goodIn_of _ (by decide +kernel)) ggX6_minutesFor_X6_takeBack
theorem dX6_minutesFor_0 : decode cX6_minutesFor 0 = .ok (.aload_n 0, 1) := by decide +kernel
theorem dX6_minutesFor_1 : decode cX6_minutesFor 1 = .ok (.aload_n 0, 1) := by decide +kernel
theorem dX6_minutesFor_2 : decode cX6_minutesFor 2 = .ok (.iload_n 1, 1) := by decide +kernel
theorem dX6_minutesFor_3 : decode cX6_minutesFor 3 = .ok (.invokevirtual 160, 3) := by decide +kernel
theorem dX6_minutesFor_6 : decode cX6_minutesFor 6 = .ok (.iconst 1, 1) := by decide +kernel
theorem dX6_minutesFor_7 : decode cX6_minutesFor 7 = .ok (.iconst 1, 1) := by decide +kernel
theorem dX6_minutesFor_8 : decode cX6_minutesFor 8 = .ok (.invokevirtual 144, 3) := by decide +kernel
theorem dX6_minutesFor_11 : decode cX6_minutesFor 11 = .ok (.ifCond .ne 5, 3) := by decide +kernel
theorem dX6_minutesFor_14 : decode cX6_minutesFor 14 = .ok (.iconst 0, 1) := by decide +kernel
theorem dX6_minutesFor_15 : decode cX6_minutesFor 15 = .ok (.ireturn, 1) := by decide +kernel
theorem dX6_minutesFor_16 : decode cX6_minutesFor 16 = .ok (.aload_n 0, 1) := by decide +kernel
theorem dX6_minutesFor_17 : decode cX6_minutesFor 17 = .ok (.invokevirtual 169, 3) := by decide +kernel
theorem dX6_minutesFor_20 : decode cX6_minutesFor 20 = .ok (.aload_n 0, 1) := by decide +kernel
theorem dX6_minutesFor_21 : decode cX6_minutesFor 21 = .ok (.iload_n 1, 1) := by decide +kernel
theorem dX6_minutesFor_22 : decode cX6_minutesFor 22 = .ok (.iload_n 2, 1) := by decide +kernel
theorem dX6_minutesFor_23 : decode cX6_minutesFor 23 = .ok (.invokevirtual 166, 3) := by decide +kernel
theorem dX6_minutesFor_26 : decode cX6_minutesFor 26 = .ok (.istore_n 3, 1) := by decide +kernel
theorem dX6_minutesFor_27 : decode cX6_minutesFor 27 = .ok (.aload_n 0, 1) := by decide +kernel
theorem dX6_minutesFor_28 : decode cX6_minutesFor 28 = .ok (.getfield 9, 3) := by decide +kernel
theorem dX6_minutesFor_31 : decode cX6_minutesFor 31 = .ok (.iconst 2, 1) := by decide +kernel
theorem dX6_minutesFor_32 : decode cX6_minutesFor 32 = .ok (.iaload, 1) := by decide +kernel
theorem dX6_minutesFor_33 : decode cX6_minutesFor 33 = .ok (.istore 4, 2) := by decide +kernel
theorem dX6_minutesFor_35 : decode cX6_minutesFor 35 = .ok (.aload_n 0, 1) := by decide +kernel
theorem dX6_minutesFor_36 : decode cX6_minutesFor 36 = .ok (.invokevirtual 172, 3) := by decide +kernel
theorem dX6_minutesFor_39 : decode cX6_minutesFor 39 = .ok (.iload_n 3, 1) := by decide +kernel
theorem dX6_minutesFor_40 : decode cX6_minutesFor 40 = .ok (.ifCond .eq 15, 3) := by decide +kernel
theorem dX6_minutesFor_43 : decode cX6_minutesFor 43 = .ok (.iload 4, 2) := by decide +kernel
theorem dX6_minutesFor_45 : decode cX6_minutesFor 45 = .ok (.aload_n 0, 1) := by decide +kernel
theorem dX6_minutesFor_46 : decode cX6_minutesFor 46 = .ok (.getfield 9, 3) := by decide +kernel
theorem dX6_minutesFor_49 : decode cX6_minutesFor 49 = .ok (.iconst 2, 1) := by decide +kernel
theorem dX6_minutesFor_50 : decode cX6_minutesFor 50 = .ok (.iaload, 1) := by decide +kernel
theorem dX6_minutesFor_51 : decode cX6_minutesFor 51 = .ok (.isub, 1) := by decide +kernel
theorem dX6_minutesFor_52 : decode cX6_minutesFor 52 = .ok (.goto 4, 3) := by decide +kernel
theorem dX6_minutesFor_55 : decode cX6_minutesFor 55 = .ok (.iconst (-1), 1) := by decide +kernel
theorem dX6_minutesFor_56 : decode cX6_minutesFor 56 = .ok (.ireturn, 1) := by decide +kernel
set_option maxRecDepth 20000 in
theorem ggX6_waterFor_X6_isBoat : GoodIn wsX6_waterFor wsX6_isBoat := goodIn_r _ [6, 7, 8, 9, 5, 10, 126, 127, 128, 129, 130, 131, 132, 133, 134, 135, 136] (by decide +kernel) (by decide +kernel)
set_option maxRecDepth 20000 in
theorem gX6_waterFor_X6_isBoat : GoodIn wsX6_waterFor (wsV RX6 160 RX6 yX6_isBoat wsX6_isBoat) := goodIn_app (goodIn_of _ (by decide +kernel)) ggX6_waterFor_X6_isBoat
set_option maxRecDepth 20000 in
theorem ggX6_waterFor_X6_check : GoodIn wsX6_waterFor wsX6_check := goodIn_r _ [14, 15, 126, 127, 128, 129, 130, 131, 132, 133, 134, 135, 136] (by decide +kernel) (by decide +kernel)
set_option maxRecDepth 20000 in
theorem gX6_waterFor_X6_check : GoodIn wsX6_waterFor (wsV RX6 144 RX6 yX6_check wsX6_check) := goodIn_app (goodIn_of _ (by decide +kernel)) ggX6_waterFor_X6_check
set_option maxRecDepth 20000 in
theorem ggX6_waterFor_X6_putAside : GoodIn wsX6_waterFor wsX6_putAside := goodIn_r _ [19, 20, 1, 126, 127, 128, 129, 130, 131, 132, 133, 134, 135, 136] (by decide +kernel) (by decide +kernel)
set_option maxRecDepth 20000 in
theorem gX6_waterFor_X6_putAside : GoodIn wsX6_waterFor (wsV RX6 169 RX6 yX6_putAside wsX6_putAside) := goodIn_app (goodIn_of _ (by decide +kernel)) ggX6_waterFor_X6_putAside
set_option maxRecDepth 20000 in
theorem ggX6_waterFor_X6_takeOne : GoodIn wsX6_waterFor wsX6_takeOne := goodIn_r _ [24, 1, 25, 26, 27, 28, 5, 29, 30, 31, 32, 33, 8, 9, 10, 34, 35, 36, 37, 38, 39, 40, 41, 42, 43, 44, 45, 46, 47, 48, 49, 50, 51, 52, 53, 54, 55, 56, 57, 58, 59, 60, 61, 62, 63, 64, 65, 66, 67, 68, 69, 70, 71, 72, 73, 74, 75, 76, 77, 78, 79, 80, 81, 82, 83, 84, 85, 86, 87, 88, 89, 90, 91, 92, 93, 94, 95, 96, 97, 98, 99, 100, 101, 102, 103, 104, 105, 106, 107, 108, 109, 110, 111, 112, 113, 114, 115, 116, 117, 118, 119, 120, 121, 7, 126, 127, 128, 129, 130, 131, 132, 133, 134, 135, 136] (by decide +kernel) (by decide +kernel)
set_option maxRecDepth 20000 in
theorem gX6_waterFor_X6_takeOne : GoodIn wsX6_waterFor (wsV RX6 166 RX6 yX6_takeOne wsX6_takeOne) := goodIn_app (goodIn_of _ (by decide +kernel)) ggX6_waterFor_X6_takeOne
set_option maxRecDepth 20000 in
theorem ggX6_waterFor_X6_takeBack : GoodIn wsX6_waterFor wsX6_takeBack := goodIn_r _ [125, 1, 20, 126, 127, 128, 129, 130, 131, 132, 133, 134, 135, 136] (by decide +kernel) (by decide +kernel)
set_option maxRecDepth 20000 in
theorem gX6_waterFor_X6_takeBack : GoodIn wsX6_waterFor (wsV RX6 172 RX6 yX6_takeBack wsX6_takeBack) := goodIn_app (goodIn_of _ (by decide +kernel)) ggX6_waterFor_X6_takeBack
theorem dX6_waterFor_0 : decode cX6_waterFor 0 = .ok (.aload_n 0, 1) := by decide +kernel
theorem dX6_waterFor_1 : decode cX6_waterFor 1 = .ok (.aload_n 0, 1) := by decide +kernel
theorem dX6_waterFor_2 : decode cX6_waterFor 2 = .ok (.iload_n 1, 1) := by decide +kernel
theorem dX6_waterFor_3 : decode cX6_waterFor 3 = .ok (.invokevirtual 160, 3) := by decide +kernel
theorem dX6_waterFor_6 : decode cX6_waterFor 6 = .ok (.iconst 1, 1) := by decide +kernel
theorem dX6_waterFor_7 : decode cX6_waterFor 7 = .ok (.iconst 1, 1) := by decide +kernel
theorem dX6_waterFor_8 : decode cX6_waterFor 8 = .ok (.invokevirtual 144, 3) := by decide +kernel
theorem dX6_waterFor_11 : decode cX6_waterFor 11 = .ok (.ifCond .ne 5, 3) := by decide +kernel
theorem dX6_waterFor_14 : decode cX6_waterFor 14 = .ok (.iconst 0, 1) := by decide +kernel
theorem dX6_waterFor_15 : decode cX6_waterFor 15 = .ok (.ireturn, 1) := by decide +kernel
theorem dX6_waterFor_16 : decode cX6_waterFor 16 = .ok (.aload_n 0, 1) := by decide +kernel
theorem dX6_waterFor_17 : decode cX6_waterFor 17 = .ok (.invokevirtual 169, 3) := by decide +kernel
theorem dX6_waterFor_20 : decode cX6_waterFor 20 = .ok (.aload_n 0, 1) := by decide +kernel
theorem dX6_waterFor_21 : decode cX6_waterFor 21 = .ok (.iload_n 1, 1) := by decide +kernel
theorem dX6_waterFor_22 : decode cX6_waterFor 22 = .ok (.iload_n 2, 1) := by decide +kernel
theorem dX6_waterFor_23 : decode cX6_waterFor 23 = .ok (.invokevirtual 166, 3) := by decide +kernel
theorem dX6_waterFor_26 : decode cX6_waterFor 26 = .ok (.istore_n 3, 1) := by decide +kernel
theorem dX6_waterFor_27 : decode cX6_waterFor 27 = .ok (.aload_n 0, 1) := by decide +kernel
theorem dX6_waterFor_28 : decode cX6_waterFor 28 = .ok (.getfield 9, 3) := by decide +kernel
theorem dX6_waterFor_31 : decode cX6_waterFor 31 = .ok (.iconst 0, 1) := by decide +kernel
theorem dX6_waterFor_32 : decode cX6_waterFor 32 = .ok (.iaload, 1) := by decide +kernel
theorem dX6_waterFor_33 : decode cX6_waterFor 33 = .ok (.istore 4, 2) := by decide +kernel
theorem dX6_waterFor_35 : decode cX6_waterFor 35 = .ok (.aload_n 0, 1) := by decide +kernel
theorem dX6_waterFor_36 : decode cX6_waterFor 36 = .ok (.invokevirtual 172, 3) := by decide +kernel
theorem dX6_waterFor_39 : decode cX6_waterFor 39 = .ok (.aload_n 0, 1) := by decide +kernel
theorem dX6_waterFor_40 : decode cX6_waterFor 40 = .ok (.getfield 9, 3) := by decide +kernel
theorem dX6_waterFor_43 : decode cX6_waterFor 43 = .ok (.iconst 0, 1) := by decide +kernel
theorem dX6_waterFor_44 : decode cX6_waterFor 44 = .ok (.iaload, 1) := by decide +kernel
theorem dX6_waterFor_45 : decode cX6_waterFor 45 = .ok (.iload 4, 2) := by decide +kernel
theorem dX6_waterFor_47 : decode cX6_waterFor 47 = .ok (.isub, 1) := by decide +kernel
theorem dX6_waterFor_48 : decode cX6_waterFor 48 = .ok (.ireturn, 1) := by decide +kernel
theorem dX6_lostWater_0 : decode cX6_lostWater 0 = .ok (.aload_n 0, 1) := by decide +kernel
theorem dX6_lostWater_1 : decode cX6_lostWater 1 = .ok (.iconst 0, 1) := by decide +kernel
theorem dX6_lostWater_2 : decode cX6_lostWater 2 = .ok (.putfield 40, 3) := by decide +kernel
theorem dX6_lostWater_5 : decode cX6_lostWater 5 = .ok (.aload_n 0, 1) := by decide +kernel
theorem dX6_lostWater_6 : decode cX6_lostWater 6 = .ok (.getfield 9, 3) := by decide +kernel
theorem dX6_lostWater_9 : decode cX6_lostWater 9 = .ok (.iconst 1, 1) := by decide +kernel
theorem dX6_lostWater_10 : decode cX6_lostWater 10 = .ok (.iaload, 1) := by decide +kernel
theorem dX6_lostWater_11 : decode cX6_lostWater 11 = .ok (.ireturn, 1) := by decide +kernel
set_option maxRecDepth 20000 in
theorem ggX6_meanLevel_X6_level : GoodIn wsX6_meanLevel wsX6_level := goodIn_r _ [7, 8, 9, 10, 11, 12, 13, 14, 15, 16, 17, 18, 19, 20] (by decide +kernel) (by decide +kernel)
set_option maxRecDepth 20000 in
theorem gX6_meanLevel_X6_level : GoodIn wsX6_meanLevel (wsV RX6 68 RX6 yX6_level wsX6_level) := goodIn_app (goodIn_of _ (by decide +kernel)) ggX6_meanLevel_X6_level
theorem dX6_meanLevel_0 : decode cX6_meanLevel 0 = .ok (.aload_n 0, 1) := by decide +kernel
theorem dX6_meanLevel_1 : decode cX6_meanLevel 1 = .ok (.iconst 0, 1) := by decide +kernel
theorem dX6_meanLevel_2 : decode cX6_meanLevel 2 = .ok (.putfield 40, 3) := by decide +kernel
theorem dX6_meanLevel_5 : decode cX6_meanLevel 5 = .ok (.iconst 0, 1) := by decide +kernel
theorem dX6_meanLevel_6 : decode cX6_meanLevel 6 = .ok (.istore_n 1, 1) := by decide +kernel
theorem dX6_meanLevel_7 : decode cX6_meanLevel 7 = .ok (.iconst 0, 1) := by decide +kernel
theorem dX6_meanLevel_8 : decode cX6_meanLevel 8 = .ok (.istore_n 2, 1) := by decide +kernel
theorem dX6_meanLevel_9 : decode cX6_meanLevel 9 = .ok (.iload_n 2, 1) := by decide +kernel
theorem dX6_meanLevel_10 : decode cX6_meanLevel 10 = .ok (.aload_n 0, 1) := by decide +kernel
theorem dX6_meanLevel_11 : decode cX6_meanLevel 11 = .ok (.getfield 26, 3) := by decide +kernel
theorem dX6_meanLevel_14 : decode cX6_meanLevel 14 = .ok (.if_icmp .ge 17, 3) := by decide +kernel
theorem dX6_meanLevel_17 : decode cX6_meanLevel 17 = .ok (.iload_n 1, 1) := by decide +kernel
theorem dX6_meanLevel_18 : decode cX6_meanLevel 18 = .ok (.aload_n 0, 1) := by decide +kernel
theorem dX6_meanLevel_19 : decode cX6_meanLevel 19 = .ok (.iload_n 2, 1) := by decide +kernel
theorem dX6_meanLevel_20 : decode cX6_meanLevel 20 = .ok (.invokevirtual 68, 3) := by decide +kernel
theorem dX6_meanLevel_23 : decode cX6_meanLevel 23 = .ok (.iadd, 1) := by decide +kernel
theorem dX6_meanLevel_24 : decode cX6_meanLevel 24 = .ok (.istore_n 1, 1) := by decide +kernel
theorem dX6_meanLevel_25 : decode cX6_meanLevel 25 = .ok (.iinc 2 1, 3) := by decide +kernel
theorem dX6_meanLevel_28 : decode cX6_meanLevel 28 = .ok (.goto (-19), 3) := by decide +kernel
theorem dX6_meanLevel_31 : decode cX6_meanLevel 31 = .ok (.iload_n 1, 1) := by decide +kernel
theorem dX6_meanLevel_32 : decode cX6_meanLevel 32 = .ok (.i2d, 1) := by decide +kernel
theorem dX6_meanLevel_33 : decode cX6_meanLevel 33 = .ok (.aload_n 0, 1) := by decide +kernel
theorem dX6_meanLevel_34 : decode cX6_meanLevel 34 = .ok (.getfield 26, 3) := by decide +kernel
theorem dX6_meanLevel_37 : decode cX6_meanLevel 37 = .ok (.i2d, 1) := by decide +kernel
theorem dX6_meanLevel_38 : decode cX6_meanLevel 38 = .ok (.ddiv, 1) := by decide +kernel
theorem dX6_meanLevel_39 : decode cX6_meanLevel 39 = .ok (.dreturn, 1) := by decide +kernel
set_option maxRecDepth 20000 in
theorem ggX6_poundPart_X6_full : GoodIn wsX6_poundPart wsX6_full := goodIn_r _ [7, 8, 9, 10, 11, 12, 13, 14, 15, 16, 17, 18, 19] (by decide +kernel) (by decide +kernel)
set_option maxRecDepth 20000 in
theorem gX6_poundPart_X6_full : GoodIn wsX6_poundPart (wsV RX6 36 RX6 yX6_full wsX6_full) := goodIn_app (goodIn_of _ (by decide +kernel)) ggX6_poundPart_X6_full
theorem dX6_poundPart_0 : decode cX6_poundPart 0 = .ok (.aload_n 0, 1) := by decide +kernel
theorem dX6_poundPart_1 : decode cX6_poundPart 1 = .ok (.iconst 0, 1) := by decide +kernel
theorem dX6_poundPart_2 : decode cX6_poundPart 2 = .ok (.putfield 40, 3) := by decide +kernel
theorem dX6_poundPart_5 : decode cX6_poundPart 5 = .ok (.aload_n 0, 1) := by decide +kernel
theorem dX6_poundPart_6 : decode cX6_poundPart 6 = .ok (.getfield 9, 3) := by decide +kernel
theorem dX6_poundPart_9 : decode cX6_poundPart 9 = .ok (.iconst 0, 1) := by decide +kernel
theorem dX6_poundPart_10 : decode cX6_poundPart 10 = .ok (.iaload, 1) := by decide +kernel
theorem dX6_poundPart_11 : decode cX6_poundPart 11 = .ok (.i2f, 1) := by decide +kernel
theorem dX6_poundPart_12 : decode cX6_poundPart 12 = .ok (.aload_n 0, 1) := by decide +kernel
theorem dX6_poundPart_13 : decode cX6_poundPart 13 = .ok (.invokevirtual 36, 3) := by decide +kernel
theorem dX6_poundPart_16 : decode cX6_poundPart 16 = .ok (.i2f, 1) := by decide +kernel
theorem dX6_poundPart_17 : decode cX6_poundPart 17 = .ok (.fdiv, 1) := by decide +kernel
theorem dX6_poundPart_18 : decode cX6_poundPart 18 = .ok (.freturn, 1) := by decide +kernel
set_option maxRecDepth 20000 in
theorem ggX6_isGateRight_X6_isOpenGate : GoodIn wsX6_isGateRight wsX6_isOpenGate := goodIn_r _ [5, 6, 7, 8, 9, 4, 10, 11, 12, 13, 14, 41, 42, 43, 44, 45, 46, 47, 48, 49, 50, 51] (by decide +kernel) (by decide +kernel)
set_option maxRecDepth 20000 in
theorem gX6_isGateRight_X6_isOpenGate : GoodIn wsX6_isGateRight (wsV RX6 76 RX6 yX6_isOpenGate wsX6_isOpenGate) := goodIn_app (goodIn_of _ (by decide +kernel)) ggX6_isGateRight_X6_isOpenGate
set_option maxRecDepth 20000 in
theorem ggX6_isGateRight_X6_head : GoodIn wsX6_isGateRight wsX6_head := goodIn_r _ [18, 11, 19, 20, 21, 4, 22, 23, 24, 25, 26, 27, 6, 28, 29, 30, 31, 32, 33, 34, 35, 36, 41, 42, 43, 44, 45, 46, 47, 48, 49, 50, 51] (by decide +kernel) (by decide +kernel)
set_option maxRecDepth 20000 in
theorem gX6_isGateRight_X6_head : GoodIn wsX6_isGateRight (wsV RX6 82 RX6 yX6_head wsX6_head) := goodIn_app (goodIn_of _ (by decide +kernel)) ggX6_isGateRight_X6_head
set_option maxRecDepth 20000 in
theorem ggX6_isGateRight_X6_isUp : GoodIn wsX6_isGateRight wsX6_isUp := goodIn_r _ [40, 6, 7, 8, 9, 4, 10, 11, 12, 13, 14, 41, 42, 43, 44, 45, 46, 47, 48, 49, 50, 51] (by decide +kernel) (by decide +kernel)
set_option maxRecDepth 20000 in
theorem gX6_isGateRight_X6_isUp : GoodIn wsX6_isGateRight (wsV RX6 79 RX6 yX6_isUp wsX6_isUp) := goodIn_app (goodIn_of _ (by decide +kernel)) ggX6_isGateRight_X6_isUp
theorem dX6_isGateRight_0 : decode cX6_isGateRight 0 = .ok (.aload_n 0, 1) := by decide +kernel
theorem dX6_isGateRight_1 : decode cX6_isGateRight 1 = .ok (.iload_n 1, 1) := by decide +kernel
theorem dX6_isGateRight_2 : decode cX6_isGateRight 2 = .ok (.invokevirtual 76, 3) := by decide +kernel
theorem dX6_isGateRight_5 : decode cX6_isGateRight 5 = .ok (.ifCond .eq 39, 3) := by decide +kernel
theorem dX6_isGateRight_8 : decode cX6_isGateRight 8 = .ok (.aload_n 0, 1) := by decide +kernel
theorem dX6_isGateRight_9 : decode cX6_isGateRight 9 = .ok (.iload_n 1, 1) := by decide +kernel
theorem dX6_isGateRight_10 : decode cX6_isGateRight 10 = .ok (.invokevirtual 82, 3) := by decide +kernel
theorem dX6_isGateRight_13 : decode cX6_isGateRight 13 = .ok (.ifCond .ne 35, 3) := by decide +kernel
theorem dX6_isGateRight_16 : decode cX6_isGateRight 16 = .ok (.aload_n 0, 1) := by decide +kernel
theorem dX6_isGateRight_17 : decode cX6_isGateRight 17 = .ok (.iload_n 1, 1) := by decide +kernel
theorem dX6_isGateRight_18 : decode cX6_isGateRight 18 = .ok (.invokevirtual 79, 3) := by decide +kernel
theorem dX6_isGateRight_21 : decode cX6_isGateRight 21 = .ok (.ifCond .ne 27, 3) := by decide +kernel
theorem dX6_isGateRight_24 : decode cX6_isGateRight 24 = .ok (.aload_n 0, 1) := by decide +kernel
theorem dX6_isGateRight_25 : decode cX6_isGateRight 25 = .ok (.iload_n 1, 1) := by decide +kernel
theorem dX6_isGateRight_26 : decode cX6_isGateRight 26 = .ok (.iconst 1, 1) := by decide +kernel
theorem dX6_isGateRight_27 : decode cX6_isGateRight 27 = .ok (.isub, 1) := by decide +kernel
theorem dX6_isGateRight_28 : decode cX6_isGateRight 28 = .ok (.invokevirtual 79, 3) := by decide +kernel
theorem dX6_isGateRight_31 : decode cX6_isGateRight 31 = .ok (.ifCond .ne 17, 3) := by decide +kernel
theorem dX6_isGateRight_34 : decode cX6_isGateRight 34 = .ok (.aload_n 0, 1) := by decide +kernel
theorem dX6_isGateRight_35 : decode cX6_isGateRight 35 = .ok (.iload_n 1, 1) := by decide +kernel
theorem dX6_isGateRight_36 : decode cX6_isGateRight 36 = .ok (.iconst 1, 1) := by decide +kernel
theorem dX6_isGateRight_37 : decode cX6_isGateRight 37 = .ok (.iadd, 1) := by decide +kernel
theorem dX6_isGateRight_38 : decode cX6_isGateRight 38 = .ok (.invokevirtual 79, 3) := by decide +kernel
theorem dX6_isGateRight_41 : decode cX6_isGateRight 41 = .ok (.ifCond .ne 7, 3) := by decide +kernel
theorem dX6_isGateRight_44 : decode cX6_isGateRight 44 = .ok (.iconst 1, 1) := by decide +kernel
theorem dX6_isGateRight_45 : decode cX6_isGateRight 45 = .ok (.goto 4, 3) := by decide +kernel
theorem dX6_isGateRight_48 : decode cX6_isGateRight 48 = .ok (.iconst 0, 1) := by decide +kernel
theorem dX6_isGateRight_49 : decode cX6_isGateRight 49 = .ok (.ireturn, 1) := by decide +kernel
set_option maxRecDepth 20000 in
theorem ggX6_isConsistent_X6_isWithin : GoodIn wsX6_isConsistent wsX6_isWithin := goodIn_r _ [10] (by decide +kernel) (by decide +kernel)
set_option maxRecDepth 20000 in
theorem gX6_isConsistent_X6_isWithin : GoodIn wsX6_isConsistent (va_wsS RX6 52 yX6_isWithin wsX6_isWithin) := goodIn_app (goodIn_of _ (by decide +kernel)) ggX6_isConsistent_X6_isWithin
set_option maxRecDepth 20000 in
theorem ggX6_isConsistent_X6_lengthIn : GoodIn wsX6_isConsistent wsX6_lengthIn := goodIn_r _ [14, 15, 2, 16, 58, 59, 60, 61, 62, 63, 64, 65, 66, 67, 68] (by decide +kernel) (by decide +kernel)
set_option maxRecDepth 20000 in
theorem gX6_isConsistent_X6_lengthIn : GoodIn wsX6_isConsistent (wsV RX6 118 RX6 yX6_lengthIn wsX6_lengthIn) := goodIn_app (goodIn_of _ (by decide +kernel)) ggX6_isConsistent_X6_lengthIn
set_option maxRecDepth 20000 in
theorem ggX6_isConsistent_X6_isGateRight : GoodIn wsX6_isConsistent wsX6_isGateRight := goodIn_r _ [20, 21, 22, 23, 9, 24, 2, 25, 26, 27, 28, 5, 7, 8, 10, 29, 30, 31, 32, 33, 34, 35, 36, 6, 37, 38, 39, 40, 41, 42, 43, 44, 45, 46, 47, 48, 49, 50, 51, 52, 53, 58, 59, 60, 61, 62, 63, 64, 65, 66, 67, 68] (by decide +kernel) (by decide +kernel)
set_option maxRecDepth 20000 in
theorem gX6_isConsistent_X6_isGateRight : GoodIn wsX6_isConsistent (wsV RX6 175 RX6 yX6_isGateRight wsX6_isGateRight) := goodIn_app (goodIn_of _ (by decide +kernel)) ggX6_isConsistent_X6_isGateRight
set_option maxRecDepth 20000 in
theorem ggX6_isConsistent_X6_full : GoodIn wsX6_isConsistent wsX6_full := goodIn_r _ [57, 41, 58, 59, 60, 61, 62, 63, 64, 65, 66, 67, 68] (by decide +kernel) (by decide +kernel)
set_option maxRecDepth 20000 in
theorem gX6_isConsistent_X6_full : GoodIn wsX6_isConsistent (wsV RX6 36 RX6 yX6_full wsX6_full) := goodIn_app (goodIn_of _ (by decide +kernel)) ggX6_isConsistent_X6_full
theorem dX6_isConsistent_0 : decode cX6_isConsistent 0 = .ok (.aload_n 0, 1) := by decide +kernel
theorem dX6_isConsistent_1 : decode cX6_isConsistent 1 = .ok (.iconst 0, 1) := by decide +kernel
theorem dX6_isConsistent_2 : decode cX6_isConsistent 2 = .ok (.putfield 40, 3) := by decide +kernel
theorem dX6_isConsistent_5 : decode cX6_isConsistent 5 = .ok (.aload_n 0, 1) := by decide +kernel
theorem dX6_isConsistent_6 : decode cX6_isConsistent 6 = .ok (.getfield 9, 3) := by decide +kernel
theorem dX6_isConsistent_9 : decode cX6_isConsistent 9 = .ok (.iconst 0, 1) := by decide +kernel
theorem dX6_isConsistent_10 : decode cX6_isConsistent 10 = .ok (.iaload, 1) := by decide +kernel
theorem dX6_isConsistent_11 : decode cX6_isConsistent 11 = .ok (.aload_n 0, 1) := by decide +kernel
theorem dX6_isConsistent_12 : decode cX6_isConsistent 12 = .ok (.getfield 9, 3) := by decide +kernel
theorem dX6_isConsistent_15 : decode cX6_isConsistent 15 = .ok (.iconst 1, 1) := by decide +kernel
theorem dX6_isConsistent_16 : decode cX6_isConsistent 16 = .ok (.iaload, 1) := by decide +kernel
theorem dX6_isConsistent_17 : decode cX6_isConsistent 17 = .ok (.iadd, 1) := by decide +kernel
theorem dX6_isConsistent_18 : decode cX6_isConsistent 18 = .ok (.aload_n 0, 1) := by decide +kernel
theorem dX6_isConsistent_19 : decode cX6_isConsistent 19 = .ok (.getfield 151, 3) := by decide +kernel
theorem dX6_isConsistent_22 : decode cX6_isConsistent 22 = .ok (.iadd, 1) := by decide +kernel
theorem dX6_isConsistent_23 : decode cX6_isConsistent 23 = .ok (.aload_n 0, 1) := by decide +kernel
theorem dX6_isConsistent_24 : decode cX6_isConsistent 24 = .ok (.getfield 148, 3) := by decide +kernel
theorem dX6_isConsistent_27 : decode cX6_isConsistent 27 = .ok (.isub, 1) := by decide +kernel
theorem dX6_isConsistent_28 : decode cX6_isConsistent 28 = .ok (.istore_n 1, 1) := by decide +kernel
theorem dX6_isConsistent_29 : decode cX6_isConsistent 29 = .ok (.iconst 0, 1) := by decide +kernel
theorem dX6_isConsistent_30 : decode cX6_isConsistent 30 = .ok (.istore_n 2, 1) := by decide +kernel
theorem dX6_isConsistent_31 : decode cX6_isConsistent 31 = .ok (.iload_n 2, 1) := by decide +kernel
theorem dX6_isConsistent_32 : decode cX6_isConsistent 32 = .ok (.aload_n 0, 1) := by decide +kernel
theorem dX6_isConsistent_33 : decode cX6_isConsistent 33 = .ok (.getfield 26, 3) := by decide +kernel
theorem dX6_isConsistent_36 : decode cX6_isConsistent 36 = .ok (.if_icmp .ge 51, 3) := by decide +kernel
theorem dX6_isConsistent_39 : decode cX6_isConsistent 39 = .ok (.iload_n 1, 1) := by decide +kernel
theorem dX6_isConsistent_40 : decode cX6_isConsistent 40 = .ok (.aload_n 0, 1) := by decide +kernel
theorem dX6_isConsistent_41 : decode cX6_isConsistent 41 = .ok (.getfield 9, 3) := by decide +kernel
theorem dX6_isConsistent_44 : decode cX6_isConsistent 44 = .ok (.iconst 3, 1) := by decide +kernel
theorem dX6_isConsistent_45 : decode cX6_isConsistent 45 = .ok (.iload_n 2, 1) := by decide +kernel
theorem dX6_isConsistent_46 : decode cX6_isConsistent 46 = .ok (.iadd, 1) := by decide +kernel
theorem dX6_isConsistent_47 : decode cX6_isConsistent 47 = .ok (.iaload, 1) := by decide +kernel
theorem dX6_isConsistent_48 : decode cX6_isConsistent 48 = .ok (.iadd, 1) := by decide +kernel
theorem dX6_isConsistent_49 : decode cX6_isConsistent 49 = .ok (.istore_n 1, 1) := by decide +kernel
theorem dX6_isConsistent_50 : decode cX6_isConsistent 50 = .ok (.aload_n 0, 1) := by decide +kernel
theorem dX6_isConsistent_51 : decode cX6_isConsistent 51 = .ok (.getfield 9, 3) := by decide +kernel
theorem dX6_isConsistent_54 : decode cX6_isConsistent 54 = .ok (.iconst 3, 1) := by decide +kernel
theorem dX6_isConsistent_55 : decode cX6_isConsistent 55 = .ok (.iload_n 2, 1) := by decide +kernel
theorem dX6_isConsistent_56 : decode cX6_isConsistent 56 = .ok (.iadd, 1) := by decide +kernel
theorem dX6_isConsistent_57 : decode cX6_isConsistent 57 = .ok (.iaload, 1) := by decide +kernel
theorem dX6_isConsistent_58 : decode cX6_isConsistent 58 = .ok (.iconst 0, 1) := by decide +kernel
theorem dX6_isConsistent_59 : decode cX6_isConsistent 59 = .ok (.aload_n 0, 1) := by decide +kernel
theorem dX6_isConsistent_60 : decode cX6_isConsistent 60 = .ok (.getfield 30, 3) := by decide +kernel
theorem dX6_isConsistent_63 : decode cX6_isConsistent 63 = .ok (.invokestatic 52, 3) := by decide +kernel
theorem dX6_isConsistent_66 : decode cX6_isConsistent 66 = .ok (.ifCond .eq 13, 3) := by decide +kernel
theorem dX6_isConsistent_69 : decode cX6_isConsistent 69 = .ok (.aload_n 0, 1) := by decide +kernel
theorem dX6_isConsistent_70 : decode cX6_isConsistent 70 = .ok (.iload_n 2, 1) := by decide +kernel
theorem dX6_isConsistent_71 : decode cX6_isConsistent 71 = .ok (.invokevirtual 118, 3) := by decide +kernel
theorem dX6_isConsistent_74 : decode cX6_isConsistent 74 = .ok (.bipush 60, 2) := by decide +kernel
theorem dX6_isConsistent_76 : decode cX6_isConsistent 76 = .ok (.if_icmp .le 5, 3) := by decide +kernel
theorem dX6_isConsistent_79 : decode cX6_isConsistent 79 = .ok (.iconst 0, 1) := by decide +kernel
theorem dX6_isConsistent_80 : decode cX6_isConsistent 80 = .ok (.ireturn, 1) := by decide +kernel
theorem dX6_isConsistent_81 : decode cX6_isConsistent 81 = .ok (.iinc 2 1, 3) := by decide +kernel
theorem dX6_isConsistent_84 : decode cX6_isConsistent 84 = .ok (.goto (-53), 3) := by decide +kernel
theorem dX6_isConsistent_87 : decode cX6_isConsistent 87 = .ok (.iconst 0, 1) := by decide +kernel
theorem dX6_isConsistent_88 : decode cX6_isConsistent 88 = .ok (.istore_n 2, 1) := by decide +kernel
theorem dX6_isConsistent_89 : decode cX6_isConsistent 89 = .ok (.iload_n 2, 1) := by decide +kernel
theorem dX6_isConsistent_90 : decode cX6_isConsistent 90 = .ok (.aload_n 0, 1) := by decide +kernel
theorem dX6_isConsistent_91 : decode cX6_isConsistent 91 = .ok (.getfield 26, 3) := by decide +kernel
theorem dX6_isConsistent_94 : decode cX6_isConsistent 94 = .ok (.if_icmp .gt 19, 3) := by decide +kernel
theorem dX6_isConsistent_97 : decode cX6_isConsistent 97 = .ok (.aload_n 0, 1) := by decide +kernel
theorem dX6_isConsistent_98 : decode cX6_isConsistent 98 = .ok (.iload_n 2, 1) := by decide +kernel
theorem dX6_isConsistent_99 : decode cX6_isConsistent 99 = .ok (.invokevirtual 175, 3) := by decide +kernel
theorem dX6_isConsistent_102 : decode cX6_isConsistent 102 = .ok (.ifCond .ne 5, 3) := by decide +kernel
theorem dX6_isConsistent_105 : decode cX6_isConsistent 105 = .ok (.iconst 0, 1) := by decide +kernel
theorem dX6_isConsistent_106 : decode cX6_isConsistent 106 = .ok (.ireturn, 1) := by decide +kernel
theorem dX6_isConsistent_107 : decode cX6_isConsistent 107 = .ok (.iinc 2 1, 3) := by decide +kernel
theorem dX6_isConsistent_110 : decode cX6_isConsistent 110 = .ok (.goto (-21), 3) := by decide +kernel
theorem dX6_isConsistent_113 : decode cX6_isConsistent 113 = .ok (.iload_n 1, 1) := by decide +kernel
theorem dX6_isConsistent_114 : decode cX6_isConsistent 114 = .ok (.aload_n 0, 1) := by decide +kernel
theorem dX6_isConsistent_115 : decode cX6_isConsistent 115 = .ok (.invokevirtual 36, 3) := by decide +kernel
theorem dX6_isConsistent_118 : decode cX6_isConsistent 118 = .ok (.if_icmp .ne 7, 3) := by decide +kernel
theorem dX6_isConsistent_121 : decode cX6_isConsistent 121 = .ok (.iconst 1, 1) := by decide +kernel
theorem dX6_isConsistent_122 : decode cX6_isConsistent 122 = .ok (.goto 4, 3) := by decide +kernel
theorem dX6_isConsistent_125 : decode cX6_isConsistent 125 = .ok (.iconst 0, 1) := by decide +kernel
theorem dX6_isConsistent_126 : decode cX6_isConsistent 126 = .ok (.ireturn, 1) := by decide +kernel
theorem dJ9_floorDiv_7cf53_0 : decode cJ9_floorDiv_7cf53 0 = .ok (.iload_n 0, 1) := by decide +kernel
theorem dJ9_floorDiv_7cf53_1 : decode cJ9_floorDiv_7cf53 1 = .ok (.iload_n 1, 1) := by decide +kernel
theorem dJ9_floorDiv_7cf53_2 : decode cJ9_floorDiv_7cf53 2 = .ok (.idiv, 1) := by decide +kernel
theorem dJ9_floorDiv_7cf53_3 : decode cJ9_floorDiv_7cf53 3 = .ok (.istore_n 2, 1) := by decide +kernel
theorem dJ9_floorDiv_7cf53_4 : decode cJ9_floorDiv_7cf53 4 = .ok (.iload_n 0, 1) := by decide +kernel
theorem dJ9_floorDiv_7cf53_5 : decode cJ9_floorDiv_7cf53 5 = .ok (.iload_n 1, 1) := by decide +kernel
theorem dJ9_floorDiv_7cf53_6 : decode cJ9_floorDiv_7cf53 6 = .ok (.ixor, 1) := by decide +kernel
theorem dJ9_floorDiv_7cf53_7 : decode cJ9_floorDiv_7cf53 7 = .ok (.ifCond .ge 14, 3) := by decide +kernel
theorem dJ9_floorDiv_7cf53_10 : decode cJ9_floorDiv_7cf53 10 = .ok (.iload_n 2, 1) := by decide +kernel
theorem dJ9_floorDiv_7cf53_11 : decode cJ9_floorDiv_7cf53 11 = .ok (.iload_n 1, 1) := by decide +kernel
theorem dJ9_floorDiv_7cf53_12 : decode cJ9_floorDiv_7cf53 12 = .ok (.imul, 1) := by decide +kernel
theorem dJ9_floorDiv_7cf53_13 : decode cJ9_floorDiv_7cf53 13 = .ok (.iload_n 0, 1) := by decide +kernel
theorem dJ9_floorDiv_7cf53_14 : decode cJ9_floorDiv_7cf53 14 = .ok (.if_icmp .eq 7, 3) := by decide +kernel
theorem dJ9_floorDiv_7cf53_17 : decode cJ9_floorDiv_7cf53 17 = .ok (.iload_n 2, 1) := by decide +kernel
theorem dJ9_floorDiv_7cf53_18 : decode cJ9_floorDiv_7cf53 18 = .ok (.iconst 1, 1) := by decide +kernel
theorem dJ9_floorDiv_7cf53_19 : decode cJ9_floorDiv_7cf53 19 = .ok (.isub, 1) := by decide +kernel
theorem dJ9_floorDiv_7cf53_20 : decode cJ9_floorDiv_7cf53 20 = .ok (.ireturn, 1) := by decide +kernel
theorem dJ9_floorDiv_7cf53_21 : decode cJ9_floorDiv_7cf53 21 = .ok (.iload_n 2, 1) := by decide +kernel
theorem dJ9_floorDiv_7cf53_22 : decode cJ9_floorDiv_7cf53 22 = .ok (.ireturn, 1) := by decide +kernel
theorem dJ9_max_7cf53_0 : decode cJ9_max_7cf53 0 = .ok (.iload_n 0, 1) := by decide +kernel
theorem dJ9_max_7cf53_1 : decode cJ9_max_7cf53 1 = .ok (.iload_n 1, 1) := by decide +kernel
theorem dJ9_max_7cf53_2 : decode cJ9_max_7cf53 2 = .ok (.if_icmp .lt 7, 3) := by decide +kernel
theorem dJ9_max_7cf53_5 : decode cJ9_max_7cf53 5 = .ok (.iload_n 0, 1) := by decide +kernel
theorem dJ9_max_7cf53_6 : decode cJ9_max_7cf53 6 = .ok (.goto 4, 3) := by decide +kernel
theorem dJ9_max_7cf53_9 : decode cJ9_max_7cf53 9 = .ok (.iload_n 1, 1) := by decide +kernel
theorem dJ9_max_7cf53_10 : decode cJ9_max_7cf53 10 = .ok (.ireturn, 1) := by decide +kernel
theorem dJ9_min_7cf53_0 : decode cJ9_min_7cf53 0 = .ok (.iload_n 0, 1) := by decide +kernel
theorem dJ9_min_7cf53_1 : decode cJ9_min_7cf53 1 = .ok (.iload_n 1, 1) := by decide +kernel
theorem dJ9_min_7cf53_2 : decode cJ9_min_7cf53 2 = .ok (.if_icmp .gt 7, 3) := by decide +kernel
theorem dJ9_min_7cf53_5 : decode cJ9_min_7cf53 5 = .ok (.iload_n 0, 1) := by decide +kernel
theorem dJ9_min_7cf53_6 : decode cJ9_min_7cf53 6 = .ok (.goto 4, 3) := by decide +kernel
theorem dJ9_min_7cf53_9 : decode cJ9_min_7cf53 9 = .ok (.iload_n 1, 1) := by decide +kernel
theorem dJ9_min_7cf53_10 : decode cJ9_min_7cf53 10 = .ok (.ireturn, 1) := by decide +kernel
theorem dL_cell_0 : decode cL_cell 0 = .ok (.iload_n 1, 1) := by decide +kernel
theorem dL_cell_1 : decode cL_cell 1 = .ok (.aload_n 0, 1) := by decide +kernel
theorem dL_cell_2 : decode cL_cell 2 = .ok (.arraylength, 1) := by decide +kernel
theorem dL_cell_3 : decode cL_cell 3 = .ok (.if_icmp .ge 9, 3) := by decide +kernel
theorem dL_cell_6 : decode cL_cell 6 = .ok (.aload_n 0, 1) := by decide +kernel
theorem dL_cell_7 : decode cL_cell 7 = .ok (.iload_n 1, 1) := by decide +kernel
theorem dL_cell_8 : decode cL_cell 8 = .ok (.iaload, 1) := by decide +kernel
theorem dL_cell_9 : decode cL_cell 9 = .ok (.goto 4, 3) := by decide +kernel
theorem dL_cell_12 : decode cL_cell 12 = .ok (.iconst 0, 1) := by decide +kernel
theorem dL_cell_13 : decode cL_cell 13 = .ok (.ireturn, 1) := by decide +kernel
set_option maxRecDepth 20000 in
theorem ggL_levelOf_X5_levelOf : GoodIn wsL_levelOf wsX5_levelOf := goodIn_ca (goodIn_r _ [6, 7, 8, 9, 10, 5, 11, 12, 13, 14, 15, 16, 17, 18, 19, 20, 21, 22, 23, 24, 25, 26, 27, 28, 29, 30, 31, 32, 33, 34, 35, 36, 37, 38, 39, 40, 41, 42, 43, 44] (by decide +kernel) (by decide +kernel)) (goodIn_sub (fun _ h => List.mem_cons_of_mem _ (List.mem_append_right _ h)) (by decide +kernel))
set_option maxRecDepth 20000 in
theorem gL_levelOf_X5_levelOf : GoodIn wsL_levelOf (wsV RL 7 RX5 yX5_levelOf wsX5_levelOf) := goodIn_app (goodIn_of _ (by decide +kernel)) ggL_levelOf_X5_levelOf
theorem dL_levelOf_0 : decode cL_levelOf 0 = .ok (.aload_n 2, 1) := by decide +kernel
theorem dL_levelOf_1 : decode cL_levelOf 1 = .ok (.iconst 0, 1) := by decide +kernel
theorem dL_levelOf_2 : decode cL_levelOf 2 = .ok (.aload_n 0, 1) := by decide +kernel
theorem dL_levelOf_3 : decode cL_levelOf 3 = .ok (.iload_n 1, 1) := by decide +kernel
theorem dL_levelOf_4 : decode cL_levelOf 4 = .ok (.invokevirtual 7, 3) := by decide +kernel
theorem dL_levelOf_7 : decode cL_levelOf 7 = .ok (.i2l, 1) := by decide +kernel
theorem dL_levelOf_8 : decode cL_levelOf 8 = .ok (.lastore, 1) := by decide +kernel
theorem dL_levelOf_9 : decode cL_levelOf 9 = .ok (.goto 6, 3) := by decide +kernel
theorem dL_levelOf_12 : decode cL_levelOf 12 = .ok (.astore_n 3, 1) := by decide +kernel
theorem dL_levelOf_13 : decode cL_levelOf 13 = .ok (.iconst 1, 1) := by decide +kernel
theorem dL_levelOf_14 : decode cL_levelOf 14 = .ok (.ireturn, 1) := by decide +kernel
theorem dL_levelOf_15 : decode cL_levelOf 15 = .ok (.iconst 0, 1) := by decide +kernel
theorem dL_levelOf_16 : decode cL_levelOf 16 = .ok (.ireturn, 1) := by decide +kernel
set_option maxRecDepth 20000 in
theorem ggL_rain_X5_rain : GoodIn wsL_rain wsX5_rain := goodIn_ca (goodIn_ca (goodIn_r _ [7, 8, 9, 10, 11, 12, 13, 14, 15, 16, 17, 18, 19, 20, 21, 22, 23, 24, 25, 26, 27, 28, 29, 30, 31, 32, 33, 34, 35, 36, 37, 38, 39, 40, 41, 42, 43, 44, 45, 46, 47, 48, 49, 50, 51, 52, 53, 54, 55] (by decide +kernel) (by decide +kernel)) (goodIn_sub (fun _ h => List.mem_cons_of_mem _ (List.mem_append_left _ (List.mem_append_right _ h))) (by decide +kernel))) (goodIn_sub (fun _ h => List.mem_cons_of_mem _ (List.mem_append_right _ h)) (by decide +kernel))
set_option maxRecDepth 20000 in
theorem gL_rain_X5_rain : GoodIn wsL_rain (wsV RL 15 RX5 yX5_rain wsX5_rain) := goodIn_app (goodIn_of _ (by decide +kernel)) ggL_rain_X5_rain
theorem dL_rain_0 : decode cL_rain 0 = .ok (.aload_n 2, 1) := by decide +kernel
theorem dL_rain_1 : decode cL_rain 1 = .ok (.iconst 0, 1) := by decide +kernel
theorem dL_rain_2 : decode cL_rain 2 = .ok (.aload_n 0, 1) := by decide +kernel
theorem dL_rain_3 : decode cL_rain 3 = .ok (.iload_n 1, 1) := by decide +kernel
theorem dL_rain_4 : decode cL_rain 4 = .ok (.invokevirtual 15, 3) := by decide +kernel
theorem dL_rain_7 : decode cL_rain 7 = .ok (.i2l, 1) := by decide +kernel
theorem dL_rain_8 : decode cL_rain 8 = .ok (.lastore, 1) := by decide +kernel
theorem dL_rain_9 : decode cL_rain 9 = .ok (.goto 9, 3) := by decide +kernel
theorem dL_rain_12 : decode cL_rain 12 = .ok (.astore_n 3, 1) := by decide +kernel
theorem dL_rain_13 : decode cL_rain 13 = .ok (.iconst 1, 1) := by decide +kernel
theorem dL_rain_14 : decode cL_rain 14 = .ok (.ireturn, 1) := by decide +kernel
theorem dL_rain_15 : decode cL_rain 15 = .ok (.astore_n 3, 1) := by decide +kernel
theorem dL_rain_16 : decode cL_rain 16 = .ok (.iconst 2, 1) := by decide +kernel
theorem dL_rain_17 : decode cL_rain 17 = .ok (.ireturn, 1) := by decide +kernel
theorem dL_rain_18 : decode cL_rain 18 = .ok (.iconst 0, 1) := by decide +kernel
theorem dL_rain_19 : decode cL_rain 19 = .ok (.ireturn, 1) := by decide +kernel
set_option maxRecDepth 20000 in
theorem ggL_headAt_X5_headAt : GoodIn wsL_headAt wsX5_headAt := goodIn_ca (goodIn_r _ [6, 7, 8, 9, 10, 5, 11, 12, 13, 14, 15, 16, 17, 18, 19, 20, 21, 22, 23, 24, 25, 26, 27, 28, 29, 30, 31, 32, 33, 34, 35, 36, 37, 38, 39, 40, 41, 42, 43, 44, 45, 46, 47, 48] (by decide +kernel) (by decide +kernel)) (goodIn_sub (fun _ h => List.mem_cons_of_mem _ (List.mem_append_right _ h)) (by decide +kernel))
set_option maxRecDepth 20000 in
theorem gL_headAt_X5_headAt : GoodIn wsL_headAt (wsV RL 22 RX5 yX5_headAt wsX5_headAt) := goodIn_app (goodIn_of _ (by decide +kernel)) ggL_headAt_X5_headAt
theorem dL_headAt_0 : decode cL_headAt 0 = .ok (.aload_n 2, 1) := by decide +kernel
theorem dL_headAt_1 : decode cL_headAt 1 = .ok (.iconst 0, 1) := by decide +kernel
theorem dL_headAt_2 : decode cL_headAt 2 = .ok (.aload_n 0, 1) := by decide +kernel
theorem dL_headAt_3 : decode cL_headAt 3 = .ok (.iload_n 1, 1) := by decide +kernel
theorem dL_headAt_4 : decode cL_headAt 4 = .ok (.invokevirtual 22, 3) := by decide +kernel
theorem dL_headAt_7 : decode cL_headAt 7 = .ok (.i2l, 1) := by decide +kernel
theorem dL_headAt_8 : decode cL_headAt 8 = .ok (.lastore, 1) := by decide +kernel
theorem dL_headAt_9 : decode cL_headAt 9 = .ok (.goto 6, 3) := by decide +kernel
theorem dL_headAt_12 : decode cL_headAt 12 = .ok (.astore_n 3, 1) := by decide +kernel
theorem dL_headAt_13 : decode cL_headAt 13 = .ok (.iconst 1, 1) := by decide +kernel
theorem dL_headAt_14 : decode cL_headAt 14 = .ok (.ireturn, 1) := by decide +kernel
theorem dL_headAt_15 : decode cL_headAt 15 = .ok (.iconst 0, 1) := by decide +kernel
theorem dL_headAt_16 : decode cL_headAt 16 = .ok (.ireturn, 1) := by decide +kernel
set_option maxRecDepth 20000 in
theorem ggL_isOpen_X5_isOpen : GoodIn wsL_isOpen wsX5_isOpen := goodIn_ca (goodIn_r _ [6, 7, 8, 9, 10, 5, 11, 12, 13, 14, 15, 16, 17, 18, 19, 20, 21, 22, 23, 24, 25, 26, 27, 28, 29, 30, 31, 32, 33, 34, 35, 36, 37, 38, 39, 40, 41] (by decide +kernel) (by decide +kernel)) (goodIn_sub (fun _ h => List.mem_cons_of_mem _ (List.mem_append_right _ h)) (by decide +kernel))
set_option maxRecDepth 20000 in
theorem gL_isOpen_X5_isOpen : GoodIn wsL_isOpen (wsV RL 25 RX5 yX5_isOpen wsX5_isOpen) := goodIn_app (goodIn_of _ (by decide +kernel)) ggL_isOpen_X5_isOpen
theorem dL_isOpen_0 : decode cL_isOpen 0 = .ok (.aload_n 2, 1) := by decide +kernel
theorem dL_isOpen_1 : decode cL_isOpen 1 = .ok (.iconst 0, 1) := by decide +kernel
theorem dL_isOpen_2 : decode cL_isOpen 2 = .ok (.aload_n 0, 1) := by decide +kernel
theorem dL_isOpen_3 : decode cL_isOpen 3 = .ok (.iload_n 1, 1) := by decide +kernel
theorem dL_isOpen_4 : decode cL_isOpen 4 = .ok (.invokevirtual 25, 3) := by decide +kernel
theorem dL_isOpen_7 : decode cL_isOpen 7 = .ok (.ifCond .eq 7, 3) := by decide +kernel
theorem dL_isOpen_10 : decode cL_isOpen 10 = .ok (.lconst 1, 1) := by decide +kernel
theorem dL_isOpen_11 : decode cL_isOpen 11 = .ok (.goto 4, 3) := by decide +kernel
theorem dL_isOpen_14 : decode cL_isOpen 14 = .ok (.lconst 0, 1) := by decide +kernel
theorem dL_isOpen_15 : decode cL_isOpen 15 = .ok (.lastore, 1) := by decide +kernel
theorem dL_isOpen_16 : decode cL_isOpen 16 = .ok (.goto 6, 3) := by decide +kernel
theorem dL_isOpen_19 : decode cL_isOpen 19 = .ok (.astore_n 3, 1) := by decide +kernel
theorem dL_isOpen_20 : decode cL_isOpen 20 = .ok (.iconst 1, 1) := by decide +kernel
theorem dL_isOpen_21 : decode cL_isOpen 21 = .ok (.ireturn, 1) := by decide +kernel
theorem dL_isOpen_22 : decode cL_isOpen 22 = .ok (.iconst 0, 1) := by decide +kernel
theorem dL_isOpen_23 : decode cL_isOpen 23 = .ok (.ireturn, 1) := by decide +kernel
set_option maxRecDepth 20000 in
theorem ggL_openObstacle_X5_openObstacle : GoodIn wsL_openObstacle wsX5_openObstacle := goodIn_ca (goodIn_r _ [6, 7, 8, 9, 10, 5, 11, 12, 13, 14, 15, 16, 17, 18, 19, 20, 21, 22, 23, 24, 25, 26, 27, 28, 29, 30, 31, 32, 33, 34, 35, 36, 37, 38, 39, 40, 41, 42, 43, 44, 45, 46, 47, 48, 49, 50, 51, 52, 53, 54, 55, 56, 57, 58, 59, 60, 61, 62, 63, 64, 65, 66, 67, 68, 69, 70, 71, 72] (by decide +kernel) (by decide +kernel)) (goodIn_sub (fun _ h => List.mem_cons_of_mem _ (List.mem_append_right _ h)) (by decide +kernel))
set_option maxRecDepth 20000 in
theorem gL_openObstacle_X5_openObstacle : GoodIn wsL_openObstacle (wsV RL 29 RX5 yX5_openObstacle wsX5_openObstacle) := goodIn_app (goodIn_of _ (by decide +kernel)) ggL_openObstacle_X5_openObstacle
theorem dL_openObstacle_0 : decode cL_openObstacle 0 = .ok (.aload_n 2, 1) := by decide +kernel
theorem dL_openObstacle_1 : decode cL_openObstacle 1 = .ok (.iconst 0, 1) := by decide +kernel
theorem dL_openObstacle_2 : decode cL_openObstacle 2 = .ok (.aload_n 0, 1) := by decide +kernel
theorem dL_openObstacle_3 : decode cL_openObstacle 3 = .ok (.iload_n 1, 1) := by decide +kernel
theorem dL_openObstacle_4 : decode cL_openObstacle 4 = .ok (.invokevirtual 29, 3) := by decide +kernel
theorem dL_openObstacle_7 : decode cL_openObstacle 7 = .ok (.i2l, 1) := by decide +kernel
theorem dL_openObstacle_8 : decode cL_openObstacle 8 = .ok (.lastore, 1) := by decide +kernel
theorem dL_openObstacle_9 : decode cL_openObstacle 9 = .ok (.goto 6, 3) := by decide +kernel
theorem dL_openObstacle_12 : decode cL_openObstacle 12 = .ok (.astore_n 3, 1) := by decide +kernel
theorem dL_openObstacle_13 : decode cL_openObstacle 13 = .ok (.iconst 1, 1) := by decide +kernel
theorem dL_openObstacle_14 : decode cL_openObstacle 14 = .ok (.ireturn, 1) := by decide +kernel
theorem dL_openObstacle_15 : decode cL_openObstacle 15 = .ok (.iconst 0, 1) := by decide +kernel
theorem dL_openObstacle_16 : decode cL_openObstacle 16 = .ok (.ireturn, 1) := by decide +kernel
set_option maxRecDepth 20000 in
theorem ggL_open_X5_open : GoodIn wsL_open wsX5_open := goodIn_ca (goodIn_ca (goodIn_r _ [7, 8, 9, 10, 11, 12, 13, 6, 14, 15, 16, 17, 18, 19, 20, 21, 22, 23, 24, 25, 26, 27, 28, 29, 30, 31, 32, 33, 34, 35, 36, 37, 38, 39, 40, 41, 42, 43, 44, 45, 46, 47, 48, 49, 50, 51, 52, 53, 54, 55, 56, 57, 58, 59, 60, 61, 62, 63, 64, 65, 66, 67, 68, 69, 70, 71, 72, 73, 74, 75, 76, 77, 78, 79, 80, 81, 82, 83] (by decide +kernel) (by decide +kernel)) (goodIn_sub (fun _ h => List.mem_cons_of_mem _ (List.mem_append_left _ (List.mem_append_right _ h))) (by decide +kernel))) (goodIn_sub (fun _ h => List.mem_cons_of_mem _ (List.mem_append_right _ h)) (by decide +kernel))
set_option maxRecDepth 20000 in
theorem gL_open_X5_open : GoodIn wsL_open (wsV RL 32 RX5 yX5_open wsX5_open) := goodIn_app (goodIn_of _ (by decide +kernel)) ggL_open_X5_open
theorem dL_open_0 : decode cL_open 0 = .ok (.aload_n 2, 1) := by decide +kernel
theorem dL_open_1 : decode cL_open 1 = .ok (.iconst 0, 1) := by decide +kernel
theorem dL_open_2 : decode cL_open 2 = .ok (.aload_n 0, 1) := by decide +kernel
theorem dL_open_3 : decode cL_open 3 = .ok (.iload_n 1, 1) := by decide +kernel
theorem dL_open_4 : decode cL_open 4 = .ok (.invokevirtual 32, 3) := by decide +kernel
theorem dL_open_7 : decode cL_open 7 = .ok (.i2l, 1) := by decide +kernel
theorem dL_open_8 : decode cL_open 8 = .ok (.lastore, 1) := by decide +kernel
theorem dL_open_9 : decode cL_open 9 = .ok (.goto 9, 3) := by decide +kernel
theorem dL_open_12 : decode cL_open 12 = .ok (.astore_n 3, 1) := by decide +kernel
theorem dL_open_13 : decode cL_open 13 = .ok (.iconst 1, 1) := by decide +kernel
theorem dL_open_14 : decode cL_open 14 = .ok (.ireturn, 1) := by decide +kernel
theorem dL_open_15 : decode cL_open 15 = .ok (.astore_n 3, 1) := by decide +kernel
theorem dL_open_16 : decode cL_open 16 = .ok (.iconst 2, 1) := by decide +kernel
theorem dL_open_17 : decode cL_open 17 = .ok (.ireturn, 1) := by decide +kernel
theorem dL_open_18 : decode cL_open 18 = .ok (.iconst 0, 1) := by decide +kernel
theorem dL_open_19 : decode cL_open 19 = .ok (.ireturn, 1) := by decide +kernel
set_option maxRecDepth 20000 in
theorem ggL_shut_X5_shut : GoodIn wsL_shut wsX5_shut := goodIn_ca (goodIn_r _ [6, 7, 8, 9, 10, 5, 11, 12, 13, 14, 15, 16, 17, 18, 19, 20, 21, 22, 23, 24, 25, 26, 27, 28, 29, 30, 31, 32, 33, 34, 35, 36, 37, 38, 39, 40, 41, 42, 43, 44, 45] (by decide +kernel) (by decide +kernel)) (goodIn_sub (fun _ h => List.mem_cons_of_mem _ (List.mem_append_right _ h)) (by decide +kernel))
set_option maxRecDepth 20000 in
theorem gL_shut_X5_shut : GoodIn wsL_shut (wsV RL 35 RX5 yX5_shut wsX5_shut) := goodIn_app (goodIn_of _ (by decide +kernel)) ggL_shut_X5_shut
theorem dL_shut_0 : decode cL_shut 0 = .ok (.aload_n 2, 1) := by decide +kernel
theorem dL_shut_1 : decode cL_shut 1 = .ok (.iconst 0, 1) := by decide +kernel
theorem dL_shut_2 : decode cL_shut 2 = .ok (.aload_n 0, 1) := by decide +kernel
theorem dL_shut_3 : decode cL_shut 3 = .ok (.iload_n 1, 1) := by decide +kernel
theorem dL_shut_4 : decode cL_shut 4 = .ok (.invokevirtual 35, 3) := by decide +kernel
theorem dL_shut_7 : decode cL_shut 7 = .ok (.ifCond .eq 7, 3) := by decide +kernel
theorem dL_shut_10 : decode cL_shut 10 = .ok (.lconst 1, 1) := by decide +kernel
theorem dL_shut_11 : decode cL_shut 11 = .ok (.goto 4, 3) := by decide +kernel
theorem dL_shut_14 : decode cL_shut 14 = .ok (.lconst 0, 1) := by decide +kernel
theorem dL_shut_15 : decode cL_shut 15 = .ok (.lastore, 1) := by decide +kernel
theorem dL_shut_16 : decode cL_shut 16 = .ok (.goto 6, 3) := by decide +kernel
theorem dL_shut_19 : decode cL_shut 19 = .ok (.astore_n 3, 1) := by decide +kernel
theorem dL_shut_20 : decode cL_shut 20 = .ok (.iconst 1, 1) := by decide +kernel
theorem dL_shut_21 : decode cL_shut 21 = .ok (.ireturn, 1) := by decide +kernel
theorem dL_shut_22 : decode cL_shut 22 = .ok (.iconst 0, 1) := by decide +kernel
theorem dL_shut_23 : decode cL_shut 23 = .ok (.ireturn, 1) := by decide +kernel
set_option maxRecDepth 20000 in
theorem ggL_turnsOf_X5_turnsOf : GoodIn wsL_turnsOf wsX5_turnsOf := goodIn_ca (goodIn_r _ [6, 7, 8, 9, 10, 5, 11, 12, 13, 14, 15, 16, 17, 18, 19, 20, 21, 22, 23, 24, 25, 26, 27, 28, 29, 30, 31, 32, 33, 34, 35, 36, 37, 38, 39, 40, 41] (by decide +kernel) (by decide +kernel)) (goodIn_sub (fun _ h => List.mem_cons_of_mem _ (List.mem_append_right _ h)) (by decide +kernel))
set_option maxRecDepth 20000 in
theorem gL_turnsOf_X5_turnsOf : GoodIn wsL_turnsOf (wsV RL 38 RX5 yX5_turnsOf wsX5_turnsOf) := goodIn_app (goodIn_of _ (by decide +kernel)) ggL_turnsOf_X5_turnsOf
theorem dL_turnsOf_0 : decode cL_turnsOf 0 = .ok (.aload_n 2, 1) := by decide +kernel
theorem dL_turnsOf_1 : decode cL_turnsOf 1 = .ok (.iconst 0, 1) := by decide +kernel
theorem dL_turnsOf_2 : decode cL_turnsOf 2 = .ok (.aload_n 0, 1) := by decide +kernel
theorem dL_turnsOf_3 : decode cL_turnsOf 3 = .ok (.iload_n 1, 1) := by decide +kernel
theorem dL_turnsOf_4 : decode cL_turnsOf 4 = .ok (.invokevirtual 38, 3) := by decide +kernel
theorem dL_turnsOf_7 : decode cL_turnsOf 7 = .ok (.i2l, 1) := by decide +kernel
theorem dL_turnsOf_8 : decode cL_turnsOf 8 = .ok (.lastore, 1) := by decide +kernel
theorem dL_turnsOf_9 : decode cL_turnsOf 9 = .ok (.goto 6, 3) := by decide +kernel
theorem dL_turnsOf_12 : decode cL_turnsOf 12 = .ok (.astore_n 3, 1) := by decide +kernel
theorem dL_turnsOf_13 : decode cL_turnsOf 13 = .ok (.iconst 1, 1) := by decide +kernel
theorem dL_turnsOf_14 : decode cL_turnsOf 14 = .ok (.ireturn, 1) := by decide +kernel
theorem dL_turnsOf_15 : decode cL_turnsOf 15 = .ok (.iconst 0, 1) := by decide +kernel
theorem dL_turnsOf_16 : decode cL_turnsOf 16 = .ok (.ireturn, 1) := by decide +kernel
set_option maxRecDepth 20000 in
theorem ggL_wind_X5_wind : GoodIn wsL_wind wsX5_wind := goodIn_ca (goodIn_ca (goodIn_ca (goodIn_r _ [8, 9, 10, 11, 12, 13, 14, 15, 16, 7, 17, 18, 19, 20, 21, 22, 23, 24, 25, 26, 27, 28, 29, 30, 31, 32, 33, 34, 35, 36, 37, 38, 39, 40, 41, 42, 43, 44, 45, 46, 47, 48, 49, 50, 51, 52, 53, 54, 55, 56, 57, 58, 59, 60] (by decide +kernel) (by decide +kernel)) (goodIn_sub (fun _ h => List.mem_cons_of_mem _ (List.mem_append_left _ (List.mem_append_left _ (List.mem_append_right _ h)))) (by decide +kernel))) (goodIn_sub (fun _ h => List.mem_cons_of_mem _ (List.mem_append_left _ (List.mem_append_right _ h))) (by decide +kernel))) (goodIn_sub (fun _ h => List.mem_cons_of_mem _ (List.mem_append_right _ h)) (by decide +kernel))
set_option maxRecDepth 20000 in
theorem gL_wind_X5_wind : GoodIn wsL_wind (wsV RL 41 RX5 yX5_wind wsX5_wind) := goodIn_app (goodIn_of _ (by decide +kernel)) ggL_wind_X5_wind
theorem dL_wind_0 : decode cL_wind 0 = .ok (.aload_n 3, 1) := by decide +kernel
theorem dL_wind_1 : decode cL_wind 1 = .ok (.iconst 0, 1) := by decide +kernel
theorem dL_wind_2 : decode cL_wind 2 = .ok (.aload_n 0, 1) := by decide +kernel
theorem dL_wind_3 : decode cL_wind 3 = .ok (.iload_n 1, 1) := by decide +kernel
theorem dL_wind_4 : decode cL_wind 4 = .ok (.iload_n 2, 1) := by decide +kernel
theorem dL_wind_5 : decode cL_wind 5 = .ok (.invokevirtual 41, 3) := by decide +kernel
theorem dL_wind_8 : decode cL_wind 8 = .ok (.i2l, 1) := by decide +kernel
theorem dL_wind_9 : decode cL_wind 9 = .ok (.lastore, 1) := by decide +kernel
theorem dL_wind_10 : decode cL_wind 10 = .ok (.goto 15, 3) := by decide +kernel
theorem dL_wind_13 : decode cL_wind 13 = .ok (.astore 4, 2) := by decide +kernel
theorem dL_wind_15 : decode cL_wind 15 = .ok (.iconst 1, 1) := by decide +kernel
theorem dL_wind_16 : decode cL_wind 16 = .ok (.ireturn, 1) := by decide +kernel
theorem dL_wind_17 : decode cL_wind 17 = .ok (.astore 4, 2) := by decide +kernel
theorem dL_wind_19 : decode cL_wind 19 = .ok (.iconst 2, 1) := by decide +kernel
theorem dL_wind_20 : decode cL_wind 20 = .ok (.ireturn, 1) := by decide +kernel
theorem dL_wind_21 : decode cL_wind 21 = .ok (.astore 4, 2) := by decide +kernel
theorem dL_wind_23 : decode cL_wind 23 = .ok (.iconst 3, 1) := by decide +kernel
theorem dL_wind_24 : decode cL_wind 24 = .ok (.ireturn, 1) := by decide +kernel
theorem dL_wind_25 : decode cL_wind 25 = .ok (.iconst 0, 1) := by decide +kernel
theorem dL_wind_26 : decode cL_wind 26 = .ok (.ireturn, 1) := by decide +kernel
set_option maxRecDepth 20000 in
theorem ggL_pass_X5_pass : GoodIn wsL_pass wsX5_pass := goodIn_ca (goodIn_r _ [6, 7, 8, 9, 10, 11, 12, 13, 14, 15, 16, 17, 18, 19, 20, 21, 22, 23, 24, 25, 26, 27, 28, 29, 30, 31, 32, 33, 34, 35, 36, 37, 38, 39, 40, 41, 42, 43, 44, 45, 46, 47, 48, 49, 50, 51, 52, 53, 54, 55, 56, 57, 58, 59, 60, 61, 62, 63, 64, 65, 66, 67, 68, 69, 70, 71, 72, 73] (by decide +kernel) (by decide +kernel)) (goodIn_sub (fun _ h => List.mem_cons_of_mem _ (List.mem_append_right _ h)) (by decide +kernel))
set_option maxRecDepth 20000 in
theorem gL_pass_X5_pass : GoodIn wsL_pass (wsV RL 45 RX5 yX5_pass wsX5_pass) := goodIn_app (goodIn_of _ (by decide +kernel)) ggL_pass_X5_pass
theorem dL_pass_0 : decode cL_pass 0 = .ok (.aload_n 2, 1) := by decide +kernel
theorem dL_pass_1 : decode cL_pass 1 = .ok (.iconst 0, 1) := by decide +kernel
theorem dL_pass_2 : decode cL_pass 2 = .ok (.aload_n 0, 1) := by decide +kernel
theorem dL_pass_3 : decode cL_pass 3 = .ok (.iload_n 1, 1) := by decide +kernel
theorem dL_pass_4 : decode cL_pass 4 = .ok (.invokevirtual 45, 3) := by decide +kernel
theorem dL_pass_7 : decode cL_pass 7 = .ok (.i2l, 1) := by decide +kernel
theorem dL_pass_8 : decode cL_pass 8 = .ok (.lastore, 1) := by decide +kernel
theorem dL_pass_9 : decode cL_pass 9 = .ok (.goto 6, 3) := by decide +kernel
theorem dL_pass_12 : decode cL_pass 12 = .ok (.astore_n 3, 1) := by decide +kernel
theorem dL_pass_13 : decode cL_pass 13 = .ok (.iconst 1, 1) := by decide +kernel
theorem dL_pass_14 : decode cL_pass 14 = .ok (.ireturn, 1) := by decide +kernel
theorem dL_pass_15 : decode cL_pass 15 = .ok (.iconst 0, 1) := by decide +kernel
theorem dL_pass_16 : decode cL_pass 16 = .ok (.ireturn, 1) := by decide +kernel
set_option maxRecDepth 20000 in
theorem ggL_addBoat_X5_addBoat : GoodIn wsL_addBoat wsX5_addBoat := goodIn_ca (goodIn_ca (goodIn_r _ [7, 8, 9, 10, 11, 12, 13, 14, 15, 16, 17, 18, 19, 20, 21, 22, 23, 24, 25, 26, 27, 28, 29, 30, 31, 32, 33, 34, 35, 36, 37, 38, 39, 40, 41, 42, 43, 44, 45, 46, 47, 48, 49, 50, 51, 52, 53, 54, 55, 56, 57, 58, 59, 60, 61, 62, 63, 64, 65, 66] (by decide +kernel) (by decide +kernel)) (goodIn_sub (fun _ h => List.mem_cons_of_mem _ (List.mem_append_left _ (List.mem_append_right _ h))) (by decide +kernel))) (goodIn_sub (fun _ h => List.mem_cons_of_mem _ (List.mem_append_right _ h)) (by decide +kernel))
set_option maxRecDepth 20000 in
theorem gL_addBoat_X5_addBoat : GoodIn wsL_addBoat (wsV RL 48 RX5 yX5_addBoat wsX5_addBoat) := goodIn_app (goodIn_of _ (by decide +kernel)) ggL_addBoat_X5_addBoat
theorem dL_addBoat_0 : decode cL_addBoat 0 = .ok (.aload 4, 2) := by decide +kernel
theorem dL_addBoat_2 : decode cL_addBoat 2 = .ok (.iconst 0, 1) := by decide +kernel
theorem dL_addBoat_3 : decode cL_addBoat 3 = .ok (.aload_n 0, 1) := by decide +kernel
theorem dL_addBoat_4 : decode cL_addBoat 4 = .ok (.iload_n 1, 1) := by decide +kernel
theorem dL_addBoat_5 : decode cL_addBoat 5 = .ok (.iload_n 2, 1) := by decide +kernel
theorem dL_addBoat_6 : decode cL_addBoat 6 = .ok (.iload_n 3, 1) := by decide +kernel
theorem dL_addBoat_7 : decode cL_addBoat 7 = .ok (.invokevirtual 48, 3) := by decide +kernel
theorem dL_addBoat_10 : decode cL_addBoat 10 = .ok (.i2l, 1) := by decide +kernel
theorem dL_addBoat_11 : decode cL_addBoat 11 = .ok (.lastore, 1) := by decide +kernel
theorem dL_addBoat_12 : decode cL_addBoat 12 = .ok (.goto 11, 3) := by decide +kernel
theorem dL_addBoat_15 : decode cL_addBoat 15 = .ok (.astore 5, 2) := by decide +kernel
theorem dL_addBoat_17 : decode cL_addBoat 17 = .ok (.iconst 1, 1) := by decide +kernel
theorem dL_addBoat_18 : decode cL_addBoat 18 = .ok (.ireturn, 1) := by decide +kernel
theorem dL_addBoat_19 : decode cL_addBoat 19 = .ok (.astore 5, 2) := by decide +kernel
theorem dL_addBoat_21 : decode cL_addBoat 21 = .ok (.iconst 2, 1) := by decide +kernel
theorem dL_addBoat_22 : decode cL_addBoat 22 = .ok (.ireturn, 1) := by decide +kernel
theorem dL_addBoat_23 : decode cL_addBoat 23 = .ok (.iconst 0, 1) := by decide +kernel
theorem dL_addBoat_24 : decode cL_addBoat 24 = .ok (.ireturn, 1) := by decide +kernel
set_option maxRecDepth 20000 in
theorem ggL_placeOf_X5_placeOf : GoodIn wsL_placeOf wsX5_placeOf := goodIn_ca (goodIn_r _ [6, 7, 8, 9, 10, 5, 11, 12, 13, 14, 15, 16, 17, 18, 19, 20, 21, 22, 23, 24, 25, 26, 27, 28, 29] (by decide +kernel) (by decide +kernel)) (goodIn_sub (fun _ h => List.mem_cons_of_mem _ (List.mem_append_right _ h)) (by decide +kernel))
set_option maxRecDepth 20000 in
theorem gL_placeOf_X5_placeOf : GoodIn wsL_placeOf (wsV RL 52 RX5 yX5_placeOf wsX5_placeOf) := goodIn_app (goodIn_of _ (by decide +kernel)) ggL_placeOf_X5_placeOf
theorem dL_placeOf_0 : decode cL_placeOf 0 = .ok (.aload_n 2, 1) := by decide +kernel
theorem dL_placeOf_1 : decode cL_placeOf 1 = .ok (.iconst 0, 1) := by decide +kernel
theorem dL_placeOf_2 : decode cL_placeOf 2 = .ok (.aload_n 0, 1) := by decide +kernel
theorem dL_placeOf_3 : decode cL_placeOf 3 = .ok (.iload_n 1, 1) := by decide +kernel
theorem dL_placeOf_4 : decode cL_placeOf 4 = .ok (.invokevirtual 52, 3) := by decide +kernel
theorem dL_placeOf_7 : decode cL_placeOf 7 = .ok (.i2l, 1) := by decide +kernel
theorem dL_placeOf_8 : decode cL_placeOf 8 = .ok (.lastore, 1) := by decide +kernel
theorem dL_placeOf_9 : decode cL_placeOf 9 = .ok (.goto 6, 3) := by decide +kernel
theorem dL_placeOf_12 : decode cL_placeOf 12 = .ok (.astore_n 3, 1) := by decide +kernel
theorem dL_placeOf_13 : decode cL_placeOf 13 = .ok (.iconst 1, 1) := by decide +kernel
theorem dL_placeOf_14 : decode cL_placeOf 14 = .ok (.ireturn, 1) := by decide +kernel
theorem dL_placeOf_15 : decode cL_placeOf 15 = .ok (.iconst 0, 1) := by decide +kernel
theorem dL_placeOf_16 : decode cL_placeOf 16 = .ok (.ireturn, 1) := by decide +kernel
set_option maxRecDepth 20000 in
theorem ggL_boatsAt_X5_boatsAt : GoodIn wsL_boatsAt wsX5_boatsAt := goodIn_ca (goodIn_r _ [6, 7, 8, 9, 10, 11, 12, 13, 14, 15, 16, 17, 18, 19, 20, 21, 22, 23, 24, 25, 26, 27, 28, 29, 30, 31, 32, 33, 34, 35, 36, 37, 38, 39, 40, 41, 42, 43, 44, 45, 46, 47, 48, 49, 50] (by decide +kernel) (by decide +kernel)) (goodIn_sub (fun _ h => List.mem_cons_of_mem _ (List.mem_append_right _ h)) (by decide +kernel))
set_option maxRecDepth 20000 in
theorem gL_boatsAt_X5_boatsAt : GoodIn wsL_boatsAt (wsV RL 55 RX5 yX5_boatsAt wsX5_boatsAt) := goodIn_app (goodIn_of _ (by decide +kernel)) ggL_boatsAt_X5_boatsAt
theorem dL_boatsAt_0 : decode cL_boatsAt 0 = .ok (.aload_n 2, 1) := by decide +kernel
theorem dL_boatsAt_1 : decode cL_boatsAt 1 = .ok (.iconst 0, 1) := by decide +kernel
theorem dL_boatsAt_2 : decode cL_boatsAt 2 = .ok (.aload_n 0, 1) := by decide +kernel
theorem dL_boatsAt_3 : decode cL_boatsAt 3 = .ok (.iload_n 1, 1) := by decide +kernel
theorem dL_boatsAt_4 : decode cL_boatsAt 4 = .ok (.invokevirtual 55, 3) := by decide +kernel
theorem dL_boatsAt_7 : decode cL_boatsAt 7 = .ok (.i2l, 1) := by decide +kernel
theorem dL_boatsAt_8 : decode cL_boatsAt 8 = .ok (.lastore, 1) := by decide +kernel
theorem dL_boatsAt_9 : decode cL_boatsAt 9 = .ok (.goto 6, 3) := by decide +kernel
theorem dL_boatsAt_12 : decode cL_boatsAt 12 = .ok (.astore_n 3, 1) := by decide +kernel
theorem dL_boatsAt_13 : decode cL_boatsAt 13 = .ok (.iconst 1, 1) := by decide +kernel
theorem dL_boatsAt_14 : decode cL_boatsAt 14 = .ok (.ireturn, 1) := by decide +kernel
theorem dL_boatsAt_15 : decode cL_boatsAt 15 = .ok (.iconst 0, 1) := by decide +kernel
theorem dL_boatsAt_16 : decode cL_boatsAt 16 = .ok (.ireturn, 1) := by decide +kernel
set_option maxRecDepth 20000 in
theorem ggL_freeLength_X5_freeLength : GoodIn wsL_freeLength wsX5_freeLength := goodIn_ca (goodIn_r _ [6, 7, 8, 9, 10, 5, 11, 12, 13, 14, 15, 16, 17, 18, 19, 20, 21, 22, 23, 24, 25, 26, 27, 28, 29, 30, 31, 32, 33, 34, 35, 36, 37, 38, 39, 40, 41, 42, 43, 44, 45, 46, 47, 48, 49, 50, 51, 52, 53] (by decide +kernel) (by decide +kernel)) (goodIn_sub (fun _ h => List.mem_cons_of_mem _ (List.mem_append_right _ h)) (by decide +kernel))
set_option maxRecDepth 20000 in
theorem gL_freeLength_X5_freeLength : GoodIn wsL_freeLength (wsV RL 58 RX5 yX5_freeLength wsX5_freeLength) := goodIn_app (goodIn_of _ (by decide +kernel)) ggL_freeLength_X5_freeLength
theorem dL_freeLength_0 : decode cL_freeLength 0 = .ok (.aload_n 2, 1) := by decide +kernel
theorem dL_freeLength_1 : decode cL_freeLength 1 = .ok (.iconst 0, 1) := by decide +kernel
theorem dL_freeLength_2 : decode cL_freeLength 2 = .ok (.aload_n 0, 1) := by decide +kernel
theorem dL_freeLength_3 : decode cL_freeLength 3 = .ok (.iload_n 1, 1) := by decide +kernel
theorem dL_freeLength_4 : decode cL_freeLength 4 = .ok (.invokevirtual 58, 3) := by decide +kernel
theorem dL_freeLength_7 : decode cL_freeLength 7 = .ok (.i2l, 1) := by decide +kernel
theorem dL_freeLength_8 : decode cL_freeLength 8 = .ok (.lastore, 1) := by decide +kernel
theorem dL_freeLength_9 : decode cL_freeLength 9 = .ok (.goto 6, 3) := by decide +kernel
theorem dL_freeLength_12 : decode cL_freeLength 12 = .ok (.astore_n 3, 1) := by decide +kernel
theorem dL_freeLength_13 : decode cL_freeLength 13 = .ok (.iconst 1, 1) := by decide +kernel
theorem dL_freeLength_14 : decode cL_freeLength 14 = .ok (.ireturn, 1) := by decide +kernel
theorem dL_freeLength_15 : decode cL_freeLength 15 = .ok (.iconst 0, 1) := by decide +kernel
theorem dL_freeLength_16 : decode cL_freeLength 16 = .ok (.ireturn, 1) := by decide +kernel
set_option maxRecDepth 20000 in
theorem ggL_moveObstacle_X5_moveObstacle : GoodIn wsL_moveObstacle wsX5_moveObstacle := goodIn_ca (goodIn_r _ [6, 7, 8, 9, 10, 5, 11, 12, 13, 14, 15, 16, 17, 18, 19, 20, 21, 22, 23, 24, 25, 26, 27, 28, 29, 30, 31, 32, 33, 34, 35, 36, 37, 38, 39, 40, 41, 42, 43, 44, 45, 46, 47, 48, 49, 50, 51, 52, 53, 54, 55, 56, 57, 58, 59, 60, 61, 62, 63, 64, 65, 66, 67, 68, 69, 70, 71, 72, 73, 74, 75, 76, 77, 78, 79, 80, 81, 82, 83, 84, 85, 86, 87, 88, 89, 90, 91, 92, 93, 94, 95, 96, 97, 98, 99, 100, 101, 102, 103, 104, 105, 106, 107, 108, 109, 110, 111] (by decide +kernel) (by decide +kernel)) (goodIn_sub (fun _ h => List.mem_cons_of_mem _ (List.mem_append_right _ h)) (by decide +kernel))
set_option maxRecDepth 20000 in
theorem gL_moveObstacle_X5_moveObstacle : GoodIn wsL_moveObstacle (wsV RL 61 RX5 yX5_moveObstacle wsX5_moveObstacle) := goodIn_app (goodIn_of _ (by decide +kernel)) ggL_moveObstacle_X5_moveObstacle
theorem dL_moveObstacle_0 : decode cL_moveObstacle 0 = .ok (.aload_n 3, 1) := by decide +kernel
theorem dL_moveObstacle_1 : decode cL_moveObstacle 1 = .ok (.iconst 0, 1) := by decide +kernel
theorem dL_moveObstacle_2 : decode cL_moveObstacle 2 = .ok (.aload_n 0, 1) := by decide +kernel
theorem dL_moveObstacle_3 : decode cL_moveObstacle 3 = .ok (.iload_n 1, 1) := by decide +kernel
theorem dL_moveObstacle_4 : decode cL_moveObstacle 4 = .ok (.iload_n 2, 1) := by decide +kernel
theorem dL_moveObstacle_5 : decode cL_moveObstacle 5 = .ok (.invokevirtual 61, 3) := by decide +kernel
theorem dL_moveObstacle_8 : decode cL_moveObstacle 8 = .ok (.i2l, 1) := by decide +kernel
theorem dL_moveObstacle_9 : decode cL_moveObstacle 9 = .ok (.lastore, 1) := by decide +kernel
theorem dL_moveObstacle_10 : decode cL_moveObstacle 10 = .ok (.goto 7, 3) := by decide +kernel
theorem dL_moveObstacle_13 : decode cL_moveObstacle 13 = .ok (.astore 4, 2) := by decide +kernel
theorem dL_moveObstacle_15 : decode cL_moveObstacle 15 = .ok (.iconst 1, 1) := by decide +kernel
theorem dL_moveObstacle_16 : decode cL_moveObstacle 16 = .ok (.ireturn, 1) := by decide +kernel
theorem dL_moveObstacle_17 : decode cL_moveObstacle 17 = .ok (.iconst 0, 1) := by decide +kernel
theorem dL_moveObstacle_18 : decode cL_moveObstacle 18 = .ok (.ireturn, 1) := by decide +kernel
set_option maxRecDepth 20000 in
theorem ggL_move_X5_move : GoodIn wsL_move wsX5_move := goodIn_ca (goodIn_ca (goodIn_r _ [7, 8, 9, 10, 11, 12, 13, 6, 14, 15, 16, 17, 18, 19, 20, 21, 22, 23, 24, 25, 26, 27, 28, 29, 30, 31, 32, 33, 34, 35, 36, 37, 38, 39, 40, 41, 42, 43, 44, 45, 46, 47, 48, 49, 50, 51, 52, 53, 54, 55, 56, 57, 58, 59, 60, 61, 62, 63, 64, 65, 66, 67, 68, 69, 70, 71, 72, 73, 74, 75, 76, 77, 78, 79, 80, 81, 82, 83, 84, 85, 86, 87, 88, 89, 90, 91, 92, 93, 94, 95, 96, 97, 98, 99, 100, 101, 102, 103, 104, 105, 106, 107, 108, 109, 110, 111, 112, 113, 114, 115, 116, 117, 118, 119, 120] (by decide +kernel) (by decide +kernel)) (goodIn_sub (fun _ h => List.mem_cons_of_mem _ (List.mem_append_left _ (List.mem_append_right _ h))) (by decide +kernel))) (goodIn_sub (fun _ h => List.mem_cons_of_mem _ (List.mem_append_right _ h)) (by decide +kernel))
set_option maxRecDepth 20000 in
theorem gL_move_X5_move : GoodIn wsL_move (wsV RL 65 RX5 yX5_move wsX5_move) := goodIn_app (goodIn_of _ (by decide +kernel)) ggL_move_X5_move
theorem dL_move_0 : decode cL_move 0 = .ok (.aload_n 3, 1) := by decide +kernel
theorem dL_move_1 : decode cL_move 1 = .ok (.iconst 0, 1) := by decide +kernel
theorem dL_move_2 : decode cL_move 2 = .ok (.aload_n 0, 1) := by decide +kernel
theorem dL_move_3 : decode cL_move 3 = .ok (.iload_n 1, 1) := by decide +kernel
theorem dL_move_4 : decode cL_move 4 = .ok (.iload_n 2, 1) := by decide +kernel
theorem dL_move_5 : decode cL_move 5 = .ok (.invokevirtual 65, 3) := by decide +kernel
theorem dL_move_8 : decode cL_move 8 = .ok (.i2l, 1) := by decide +kernel
theorem dL_move_9 : decode cL_move 9 = .ok (.lastore, 1) := by decide +kernel
theorem dL_move_10 : decode cL_move 10 = .ok (.goto 11, 3) := by decide +kernel
theorem dL_move_13 : decode cL_move 13 = .ok (.astore 4, 2) := by decide +kernel
theorem dL_move_15 : decode cL_move 15 = .ok (.iconst 1, 1) := by decide +kernel
theorem dL_move_16 : decode cL_move 16 = .ok (.ireturn, 1) := by decide +kernel
theorem dL_move_17 : decode cL_move 17 = .ok (.astore 4, 2) := by decide +kernel
theorem dL_move_19 : decode cL_move 19 = .ok (.iconst 2, 1) := by decide +kernel
theorem dL_move_20 : decode cL_move 20 = .ok (.ireturn, 1) := by decide +kernel
theorem dL_move_21 : decode cL_move 21 = .ok (.iconst 0, 1) := by decide +kernel
theorem dL_move_22 : decode cL_move 22 = .ok (.ireturn, 1) := by decide +kernel
set_option maxRecDepth 20000 in
theorem ggL_take_X5_take : GoodIn wsL_take wsX5_take := goodIn_ca (goodIn_r _ [6, 7, 8, 9, 10, 5, 11, 12, 13, 14, 15, 16, 17, 18, 19, 20, 21, 22, 23, 24, 25, 26, 27, 28, 29, 30, 31, 32, 33, 34, 35, 36, 37, 38, 39, 40, 41, 42, 43, 44, 45, 46, 47, 48, 49, 50, 51, 52, 53, 54, 55, 56, 57, 58, 59, 60, 61, 62, 63, 64, 65, 66, 67, 68, 69, 70, 71, 72, 73, 74, 75, 76, 77, 78, 79, 80, 81, 82, 83, 84, 85, 86, 87, 88, 89, 90, 91, 92, 93, 94, 95, 96, 97, 98, 99, 100, 101, 102, 103, 104, 105, 106, 107, 108, 109, 110, 111, 112, 113, 114, 115, 116, 117, 118, 119, 120, 121, 122, 123, 124, 125, 126, 127, 128, 129, 130, 131, 132, 133, 134, 135, 136, 137, 138, 139, 140, 141, 142, 143, 144, 145, 146, 147, 148, 149, 150, 151, 152, 153, 154, 155, 156, 157, 158, 159, 160, 161, 162, 163, 164, 165, 166, 167, 168, 169, 170, 171, 172, 173, 174, 175, 176, 177, 178, 179, 180, 181, 182, 183, 184, 185, 186] (by decide +kernel) (by decide +kernel)) (goodIn_sub (fun _ h => List.mem_cons_of_mem _ (List.mem_append_right _ h)) (by decide +kernel))
set_option maxRecDepth 20000 in
theorem gL_take_X5_take : GoodIn wsL_take (wsV RL 68 RX5 yX5_take wsX5_take) := goodIn_app (goodIn_of _ (by decide +kernel)) ggL_take_X5_take
theorem dL_take_0 : decode cL_take 0 = .ok (.aload_n 3, 1) := by decide +kernel
theorem dL_take_1 : decode cL_take 1 = .ok (.iconst 0, 1) := by decide +kernel
theorem dL_take_2 : decode cL_take 2 = .ok (.aload_n 0, 1) := by decide +kernel
theorem dL_take_3 : decode cL_take 3 = .ok (.iload_n 1, 1) := by decide +kernel
theorem dL_take_4 : decode cL_take 4 = .ok (.iload_n 2, 1) := by decide +kernel
theorem dL_take_5 : decode cL_take 5 = .ok (.invokevirtual 68, 3) := by decide +kernel
theorem dL_take_8 : decode cL_take 8 = .ok (.i2l, 1) := by decide +kernel
theorem dL_take_9 : decode cL_take 9 = .ok (.lastore, 1) := by decide +kernel
theorem dL_take_10 : decode cL_take 10 = .ok (.goto 7, 3) := by decide +kernel
theorem dL_take_13 : decode cL_take 13 = .ok (.astore 4, 2) := by decide +kernel
theorem dL_take_15 : decode cL_take 15 = .ok (.iconst 1, 1) := by decide +kernel
theorem dL_take_16 : decode cL_take 16 = .ok (.ireturn, 1) := by decide +kernel
theorem dL_take_17 : decode cL_take 17 = .ok (.iconst 0, 1) := by decide +kernel
theorem dL_take_18 : decode cL_take 18 = .ok (.ireturn, 1) := by decide +kernel
set_option maxRecDepth 20000 in
theorem ggL_minutesFor_X5_minutesFor : GoodIn wsL_minutesFor wsX5_minutesFor := goodIn_ca (goodIn_r _ [6, 7, 8, 9, 10, 11, 5, 12, 13, 14, 15, 16, 17, 18, 19, 20, 21, 22, 23, 24, 25, 26, 27, 28, 29, 30, 31, 32, 33, 34, 35, 36, 37, 38, 39, 40, 41, 42, 43, 44, 45, 46, 47, 48, 49, 50, 51, 52, 53, 54, 55, 56, 57, 58, 59, 60, 61, 62, 63, 64, 65, 66, 67, 68, 69, 70, 71, 72, 73, 74, 75, 76, 77, 78, 79, 80, 81, 82, 83, 84, 85, 86, 87, 88, 89, 90, 91, 92, 93, 94, 95, 96, 97, 98, 99, 100, 101, 102, 103, 104, 105, 106, 107, 108, 109, 110, 111, 112, 113, 114, 115, 116, 117, 118, 119, 120, 121, 122, 123, 124, 125, 126, 127, 128, 129, 130, 131, 132, 133, 134, 135, 136, 137, 138, 139, 140, 141, 142, 143, 144, 145, 146, 147, 148, 149, 150, 151, 152, 153, 154, 155, 156, 157, 158, 159, 160, 161, 162, 163, 164, 165, 166, 167, 168, 169, 170, 171, 172, 173, 174, 175, 176, 177, 178, 179, 180, 181, 182, 183, 184, 185, 186, 187, 188, 189, 190, 191, 192, 193, 194, 195, 196, 197, 198, 199, 200, 201, 202, 203, 204, 205, 206, 207, 208] (by decide +kernel) (by decide +kernel)) (goodIn_sub (fun _ h => List.mem_cons_of_mem _ (List.mem_append_right _ h)) (by decide +kernel))
set_option maxRecDepth 20000 in
theorem gL_minutesFor_X5_minutesFor : GoodIn wsL_minutesFor (wsV RL 71 RX5 yX5_minutesFor wsX5_minutesFor) := goodIn_app (goodIn_of _ (by decide +kernel)) ggL_minutesFor_X5_minutesFor
theorem dL_minutesFor_0 : decode cL_minutesFor 0 = .ok (.aload_n 3, 1) := by decide +kernel
theorem dL_minutesFor_1 : decode cL_minutesFor 1 = .ok (.iconst 0, 1) := by decide +kernel
theorem dL_minutesFor_2 : decode cL_minutesFor 2 = .ok (.aload_n 0, 1) := by decide +kernel
theorem dL_minutesFor_3 : decode cL_minutesFor 3 = .ok (.iload_n 1, 1) := by decide +kernel
theorem dL_minutesFor_4 : decode cL_minutesFor 4 = .ok (.iload_n 2, 1) := by decide +kernel
theorem dL_minutesFor_5 : decode cL_minutesFor 5 = .ok (.invokevirtual 71, 3) := by decide +kernel
theorem dL_minutesFor_8 : decode cL_minutesFor 8 = .ok (.i2l, 1) := by decide +kernel
theorem dL_minutesFor_9 : decode cL_minutesFor 9 = .ok (.lastore, 1) := by decide +kernel
theorem dL_minutesFor_10 : decode cL_minutesFor 10 = .ok (.goto 7, 3) := by decide +kernel
theorem dL_minutesFor_13 : decode cL_minutesFor 13 = .ok (.astore 4, 2) := by decide +kernel
theorem dL_minutesFor_15 : decode cL_minutesFor 15 = .ok (.iconst 1, 1) := by decide +kernel
theorem dL_minutesFor_16 : decode cL_minutesFor 16 = .ok (.ireturn, 1) := by decide +kernel
theorem dL_minutesFor_17 : decode cL_minutesFor 17 = .ok (.iconst 0, 1) := by decide +kernel
theorem dL_minutesFor_18 : decode cL_minutesFor 18 = .ok (.ireturn, 1) := by decide +kernel
set_option maxRecDepth 20000 in
theorem ggL_waterFor_X5_waterFor : GoodIn wsL_waterFor wsX5_waterFor := goodIn_ca (goodIn_r _ [6, 7, 8, 9, 10, 11, 5, 12, 13, 14, 15, 16, 17, 18, 19, 20, 21, 22, 23, 24, 25, 26, 27, 28, 29, 30, 31, 32, 33, 34, 35, 36, 37, 38, 39, 40, 41, 42, 43, 44, 45, 46, 47, 48, 49, 50, 51, 52, 53, 54, 55, 56, 57, 58, 59, 60, 61, 62, 63, 64, 65, 66, 67, 68, 69, 70, 71, 72, 73, 74, 75, 76, 77, 78, 79, 80, 81, 82, 83, 84, 85, 86, 87, 88, 89, 90, 91, 92, 93, 94, 95, 96, 97, 98, 99, 100, 101, 102, 103, 104, 105, 106, 107, 108, 109, 110, 111, 112, 113, 114, 115, 116, 117, 118, 119, 120, 121, 122, 123, 124, 125, 126, 127, 128, 129, 130, 131, 132, 133, 134, 135, 136, 137, 138, 139, 140, 141, 142, 143, 144, 145, 146, 147, 148, 149, 150, 151, 152, 153, 154, 155, 156, 157, 158, 159, 160, 161, 162, 163, 164, 165, 166, 167, 168, 169, 170, 171, 172, 173, 174, 175, 176, 177, 178, 179, 180, 181, 182, 183, 184, 185, 186, 187, 188, 189, 190, 191, 192, 193, 194, 195, 196, 197, 198, 199, 200, 201, 202, 203, 204] (by decide +kernel) (by decide +kernel)) (goodIn_sub (fun _ h => List.mem_cons_of_mem _ (List.mem_append_right _ h)) (by decide +kernel))
set_option maxRecDepth 20000 in
theorem gL_waterFor_X5_waterFor : GoodIn wsL_waterFor (wsV RL 74 RX5 yX5_waterFor wsX5_waterFor) := goodIn_app (goodIn_of _ (by decide +kernel)) ggL_waterFor_X5_waterFor
theorem dL_waterFor_0 : decode cL_waterFor 0 = .ok (.aload_n 3, 1) := by decide +kernel
theorem dL_waterFor_1 : decode cL_waterFor 1 = .ok (.iconst 0, 1) := by decide +kernel
theorem dL_waterFor_2 : decode cL_waterFor 2 = .ok (.aload_n 0, 1) := by decide +kernel
theorem dL_waterFor_3 : decode cL_waterFor 3 = .ok (.iload_n 1, 1) := by decide +kernel
theorem dL_waterFor_4 : decode cL_waterFor 4 = .ok (.iload_n 2, 1) := by decide +kernel
theorem dL_waterFor_5 : decode cL_waterFor 5 = .ok (.invokevirtual 74, 3) := by decide +kernel
theorem dL_waterFor_8 : decode cL_waterFor 8 = .ok (.i2l, 1) := by decide +kernel
theorem dL_waterFor_9 : decode cL_waterFor 9 = .ok (.lastore, 1) := by decide +kernel
theorem dL_waterFor_10 : decode cL_waterFor 10 = .ok (.goto 7, 3) := by decide +kernel
theorem dL_waterFor_13 : decode cL_waterFor 13 = .ok (.astore 4, 2) := by decide +kernel
theorem dL_waterFor_15 : decode cL_waterFor 15 = .ok (.iconst 1, 1) := by decide +kernel
theorem dL_waterFor_16 : decode cL_waterFor 16 = .ok (.ireturn, 1) := by decide +kernel
theorem dL_waterFor_17 : decode cL_waterFor 17 = .ok (.iconst 0, 1) := by decide +kernel
theorem dL_waterFor_18 : decode cL_waterFor 18 = .ok (.ireturn, 1) := by decide +kernel
set_option maxRecDepth 20000 in
theorem ggL_law_L_cell : GoodIn wsL_law wsL_cell := goodIn_r _ [10] (by decide +kernel) (by decide +kernel)
set_option maxRecDepth 20000 in
theorem gL_law_L_cell : GoodIn wsL_law (va_wsS RL 77 yL_cell wsL_cell) := goodIn_app (goodIn_of _ (by decide +kernel)) ggL_law_L_cell
set_option maxRecDepth 20000 in
theorem ggL_law_X5_init : GoodIn wsL_law wsX5_init := goodIn_r _ [13, 14, 15, 16, 17, 18, 19, 20, 21, 22, 23, 24, 25, 26, 27, 28, 29, 30, 31, 32, 33, 34, 35, 36, 37, 38, 39, 40, 41, 42, 43, 44, 45, 46, 47, 48, 49, 50, 51, 52, 53, 54, 55, 56, 57, 58, 59, 60, 61, 62, 63, 64, 65, 66, 67, 68, 69, 70, 2, 71, 72, 73, 74, 75, 76, 77, 78, 828, 829, 830, 831, 815, 816, 832, 833, 834, 835, 836, 837, 838, 839, 840, 841, 842, 843, 844, 845, 846, 847, 848, 849] (by decide +kernel) (by decide +kernel)
set_option maxRecDepth 20000 in
theorem gL_law_X5_init : GoodIn wsL_law (wsX5_init) := ggL_law_X5_init
set_option maxRecDepth 20000 in
theorem ggL_law_X6_init : GoodIn wsL_law wsX6_init := goodIn_r _ [81, 82, 15, 16, 47, 83, 84, 85, 86, 87, 88, 89, 90, 91, 5, 92, 93, 73, 74, 75, 94, 77, 78, 95, 96, 97, 98, 817, 818, 819, 820, 821, 822, 823, 824, 825, 826, 827] (by decide +kernel) (by decide +kernel)
set_option maxRecDepth 20000 in
theorem gL_law_X6_init : GoodIn wsL_law (wsX6_init) := ggL_law_X6_init
set_option maxRecDepth 20000 in
theorem ggL_law_X5_chambers : GoodIn wsL_law wsX5_chambers := goodIn_r _ [102, 20, 103, 104, 105, 40, 106, 67, 815, 816, 828, 829, 830, 831, 842, 843, 844, 845, 846, 847, 848, 849] (by decide +kernel) (by decide +kernel)
set_option maxRecDepth 20000 in
theorem gL_law_X5_chambers : GoodIn wsL_law (wsV RL 89 RX5 yX5_chambers wsX5_chambers) := goodIn_app (goodIn_of _ (by decide +kernel)) ggL_law_X5_chambers
set_option maxRecDepth 20000 in
theorem ggL_law_X6_chambers : GoodIn wsL_law wsX6_chambers := goodIn_r _ [110, 111, 87, 817, 818, 819, 820, 821, 822, 823, 824, 825, 826, 827] (by decide +kernel) (by decide +kernel)
set_option maxRecDepth 20000 in
theorem gL_law_X6_chambers : GoodIn wsL_law (wsV RL 93 RX6 yX6_chambers wsX6_chambers) := goodIn_app (goodIn_of _ (by decide +kernel)) ggL_law_X6_chambers
set_option maxRecDepth 20000 in
theorem ggL_law_L_levelOf : GoodIn wsL_law wsL_levelOf := goodIn_ca (goodIn_r _ [114, 115, 116, 117, 118, 2, 119, 20, 120, 121, 122, 123, 124, 125, 103, 104, 105, 40, 106, 67, 126, 127, 128, 129, 66, 68, 69, 130, 131, 132, 133, 815, 816, 828, 829, 830, 831, 842, 843, 844, 845, 846, 847, 848, 849] (by decide +kernel) (by decide +kernel)) (goodIn_sub (fun _ h => List.mem_append_left _ (List.mem_append_left _ (List.mem_append_right _ h))) (by decide +kernel))
set_option maxRecDepth 20000 in
theorem gL_law_L_levelOf : GoodIn wsL_law (va_wsS RL 94 yL_levelOf wsL_levelOf) := goodIn_app (goodIn_of _ (by decide +kernel)) ggL_law_L_levelOf
set_option maxRecDepth 20000 in
theorem ggL_law_X6_levelOf : GoodIn wsL_law wsX6_levelOf := goodIn_r _ [137, 138, 139, 140, 5, 141, 87, 142, 143, 144, 145, 146, 147, 148, 111, 149, 150, 151, 152, 88, 83, 817, 818, 819, 820, 821, 822, 823, 824, 825, 826, 827] (by decide +kernel) (by decide +kernel)
set_option maxRecDepth 20000 in
theorem gL_law_X6_levelOf : GoodIn wsL_law (wsV RL 97 RX6 yX6_levelOf wsX6_levelOf) := goodIn_app (goodIn_of _ (by decide +kernel)) ggL_law_X6_levelOf
set_option maxRecDepth 20000 in
theorem ggL_law_X6_thrown : GoodIn wsL_law wsX6_thrown := goodIn_r _ [156, 111, 817, 818, 819, 820, 821, 822, 823, 824, 825, 826, 827] (by decide +kernel) (by decide +kernel)
set_option maxRecDepth 20000 in
theorem gL_law_X6_thrown : GoodIn wsL_law (wsV RL 98 RX6 yX6_thrown wsX6_thrown) := goodIn_app (goodIn_of _ (by decide +kernel)) ggL_law_X6_thrown
set_option maxRecDepth 20000 in
theorem ggL_law_X5_poundLevel : GoodIn wsL_law wsX5_poundLevel := goodIn_r _ [160, 20, 103, 104, 105, 40, 106, 67, 126, 127, 128, 129, 66, 68, 69, 130, 131, 132, 133, 815, 816, 828, 829, 830, 831, 842, 843, 844, 845, 846, 847, 848, 849] (by decide +kernel) (by decide +kernel)
set_option maxRecDepth 20000 in
theorem gL_law_X5_poundLevel : GoodIn wsL_law (wsV RL 101 RX5 yX5_poundLevel wsX5_poundLevel) := goodIn_app (goodIn_of _ (by decide +kernel)) ggL_law_X5_poundLevel
set_option maxRecDepth 20000 in
theorem ggL_law_X6_poundLevel : GoodIn wsL_law wsX6_poundLevel := goodIn_r _ [164, 111, 165, 166, 167, 5, 168, 88, 87, 169, 170, 171, 172, 83, 89, 173, 131, 132, 133, 817, 818, 819, 820, 821, 822, 823, 824, 825, 826, 827] (by decide +kernel) (by decide +kernel)
set_option maxRecDepth 20000 in
theorem gL_law_X6_poundLevel : GoodIn wsL_law (wsV RL 104 RX6 yX6_poundLevel wsX6_poundLevel) := goodIn_app (goodIn_of _ (by decide +kernel)) ggL_law_X6_poundLevel
set_option maxRecDepth 20000 in
theorem ggL_law_X5_poundDepth : GoodIn wsL_law wsX5_poundDepth := goodIn_r _ [177, 20, 178, 179, 180, 40, 181, 67, 68, 182, 127, 128, 129, 66, 69, 130, 131, 132, 133, 815, 816, 828, 829, 830, 831, 842, 843, 844, 845, 846, 847, 848, 849] (by decide +kernel) (by decide +kernel)
set_option maxRecDepth 20000 in
theorem gL_law_X5_poundDepth : GoodIn wsL_law (wsV RL 105 RX5 yX5_poundDepth wsX5_poundDepth) := goodIn_app (goodIn_of _ (by decide +kernel)) ggL_law_X5_poundDepth
set_option maxRecDepth 20000 in
theorem ggL_law_X6_poundDepth : GoodIn wsL_law wsX6_poundDepth := goodIn_r _ [186, 111, 169, 170, 171, 5, 172, 83, 89, 173, 131, 132, 133, 817, 818, 819, 820, 821, 822, 823, 824, 825, 826, 827] (by decide +kernel) (by decide +kernel)
set_option maxRecDepth 20000 in
theorem gL_law_X6_poundDepth : GoodIn wsL_law (wsV RL 108 RX6 yX6_poundDepth wsX6_poundDepth) := goodIn_app (goodIn_of _ (by decide +kernel)) ggL_law_X6_poundDepth
set_option maxRecDepth 20000 in
theorem ggL_law_X5_poundWater : GoodIn wsL_law wsX5_poundWater := goodIn_r _ [190, 20, 815, 816, 828, 829, 830, 831, 842, 843, 844, 845, 846, 847, 848, 849] (by decide +kernel) (by decide +kernel)
set_option maxRecDepth 20000 in
theorem gL_law_X5_poundWater : GoodIn wsL_law (wsV RL 109 RX5 yX5_poundWater wsX5_poundWater) := goodIn_app (goodIn_of _ (by decide +kernel)) ggL_law_X5_poundWater
set_option maxRecDepth 20000 in
theorem ggL_law_X6_poundWater : GoodIn wsL_law wsX6_poundWater := goodIn_r _ [194, 111, 83, 817, 818, 819, 820, 821, 822, 823, 824, 825, 826, 827] (by decide +kernel) (by decide +kernel)
set_option maxRecDepth 20000 in
theorem gL_law_X6_poundWater : GoodIn wsL_law (wsV RL 112 RX6 yX6_poundWater wsX6_poundWater) := goodIn_app (goodIn_of _ (by decide +kernel)) ggL_law_X6_poundWater
set_option maxRecDepth 20000 in
theorem ggL_law_L_rain : GoodIn wsL_law wsL_rain := goodIn_ca (goodIn_ca (goodIn_r _ [197, 198, 199, 200, 201, 202, 2, 203, 204, 205, 206, 207, 20, 103, 104, 105, 40, 106, 67, 208, 209, 210, 28, 211, 46, 212, 213, 214, 215, 69, 216, 77, 74, 78, 217, 218, 219, 220, 221, 66, 815, 816, 828, 829, 830, 831, 842, 843, 844, 845, 846, 847, 848, 849, 832, 833] (by decide +kernel) (by decide +kernel)) (goodIn_sub (fun _ h => List.mem_append_left _ (List.mem_append_right _ h)) (by decide +kernel))) (goodIn_sub (fun _ h => List.mem_append_right _ h) (by decide +kernel))
set_option maxRecDepth 20000 in
theorem gL_law_L_rain : GoodIn wsL_law (va_wsS RL 113 yL_rain wsL_rain) := goodIn_app (goodIn_of _ (by decide +kernel)) ggL_law_L_rain
set_option maxRecDepth 20000 in
theorem ggL_law_X6_rain : GoodIn wsL_law wsX6_rain := goodIn_r _ [225, 87, 83, 94, 77, 74, 78, 226, 227, 142, 143, 5, 144, 228, 229, 230, 231, 232, 233, 234, 235, 145, 146, 147, 148, 111, 95, 96, 97, 98, 89, 817, 818, 819, 820, 821, 822, 823, 824, 825, 826, 827] (by decide +kernel) (by decide +kernel)
set_option maxRecDepth 20000 in
theorem gL_law_X6_rain : GoodIn wsL_law (wsV RL 115 RX6 yX6_rain wsX6_rain) := goodIn_app (goodIn_of _ (by decide +kernel)) ggL_law_X6_rain
set_option maxRecDepth 20000 in
theorem ggL_law_L_headAt : GoodIn wsL_law wsL_headAt := goodIn_ca (goodIn_r _ [238, 115, 239, 240, 241, 2, 242, 20, 243, 244, 245, 246, 124, 125, 103, 104, 105, 40, 106, 67, 247, 248, 249, 250, 182, 127, 128, 129, 66, 68, 69, 130, 131, 132, 133, 815, 816, 828, 829, 830, 831, 842, 843, 844, 845, 846, 847, 848, 849] (by decide +kernel) (by decide +kernel)) (goodIn_sub (fun _ h => List.mem_append_left _ (List.mem_append_left _ (List.mem_append_right _ h))) (by decide +kernel))
set_option maxRecDepth 20000 in
theorem gL_law_L_headAt : GoodIn wsL_law (va_wsS RL 116 yL_headAt wsL_headAt) := goodIn_app (goodIn_of _ (by decide +kernel)) ggL_law_L_headAt
set_option maxRecDepth 20000 in
theorem ggL_law_X6_headAt : GoodIn wsL_law wsX6_headAt := goodIn_r _ [254, 232, 233, 234, 5, 235, 87, 142, 143, 144, 145, 146, 147, 148, 111, 255, 256, 257, 258, 165, 166, 167, 168, 88, 169, 170, 171, 172, 83, 89, 173, 131, 132, 133, 149, 150, 151, 152, 817, 818, 819, 820, 821, 822, 823, 824, 825, 826, 827] (by decide +kernel) (by decide +kernel)
set_option maxRecDepth 20000 in
theorem gL_law_X6_headAt : GoodIn wsL_law (wsV RL 118 RX6 yX6_headAt wsX6_headAt) := goodIn_app (goodIn_of _ (by decide +kernel)) ggL_law_X6_headAt
set_option maxRecDepth 20000 in
theorem ggL_law_L_isOpen : GoodIn wsL_law wsL_isOpen := goodIn_ca (goodIn_r _ [261, 115, 262, 263, 264, 2, 265, 20, 243, 244, 245, 246, 124, 125, 103, 104, 105, 40, 106, 67, 208, 209, 210, 28, 211, 46, 815, 816, 828, 829, 830, 831, 842, 843, 844, 845, 846, 847, 848, 849, 832, 833] (by decide +kernel) (by decide +kernel)) (goodIn_sub (fun _ h => List.mem_append_left _ (List.mem_append_left _ (List.mem_append_right _ h))) (by decide +kernel))
set_option maxRecDepth 20000 in
theorem gL_law_L_isOpen : GoodIn wsL_law (va_wsS RL 119 yL_isOpen wsL_isOpen) := goodIn_app (goodIn_of _ (by decide +kernel)) ggL_law_L_isOpen
set_option maxRecDepth 20000 in
theorem ggL_law_X6_isOpen : GoodIn wsL_law wsX6_isOpen := goodIn_r _ [269, 232, 233, 234, 5, 235, 87, 142, 143, 144, 145, 146, 147, 148, 111, 228, 229, 230, 231, 83, 817, 818, 819, 820, 821, 822, 823, 824, 825, 826, 827] (by decide +kernel) (by decide +kernel)
set_option maxRecDepth 20000 in
theorem gL_law_X6_isOpen : GoodIn wsL_law (wsV RL 121 RX6 yX6_isOpen wsX6_isOpen) := goodIn_app (goodIn_of _ (by decide +kernel)) ggL_law_X6_isOpen
set_option maxRecDepth 20000 in
theorem ggL_law_L_openObstacle : GoodIn wsL_law wsL_openObstacle := goodIn_ca (goodIn_r _ [272, 115, 273, 274, 275, 2, 276, 20, 243, 244, 245, 246, 124, 125, 103, 104, 105, 40, 106, 67, 277, 278, 279, 19, 280, 29, 41, 281, 209, 210, 28, 211, 46, 282, 283, 284, 285, 286, 287, 288, 289, 48, 290, 248, 249, 250, 182, 127, 128, 129, 66, 68, 69, 130, 131, 132, 133, 815, 816, 828, 829, 830, 831, 842, 843, 844, 845, 846, 847, 848, 849, 832, 833] (by decide +kernel) (by decide +kernel)) (goodIn_sub (fun _ h => List.mem_append_left _ (List.mem_append_left _ (List.mem_append_right _ h))) (by decide +kernel))
set_option maxRecDepth 20000 in
theorem gL_law_L_openObstacle : GoodIn wsL_law (va_wsS RL 122 yL_openObstacle wsL_openObstacle) := goodIn_app (goodIn_of _ (by decide +kernel)) ggL_law_L_openObstacle
set_option maxRecDepth 20000 in
theorem ggL_law_X6_openObstacle : GoodIn wsL_law wsX6_openObstacle := goodIn_r _ [294, 232, 233, 234, 5, 235, 87, 142, 143, 144, 145, 146, 147, 148, 111, 295, 296, 297, 298, 228, 229, 230, 231, 83, 299, 300, 301, 302, 255, 256, 257, 258, 165, 166, 167, 168, 88, 169, 170, 171, 172, 89, 173, 131, 132, 133, 149, 150, 151, 152, 817, 818, 819, 820, 821, 822, 823, 824, 825, 826, 827] (by decide +kernel) (by decide +kernel)
set_option maxRecDepth 20000 in
theorem gL_law_X6_openObstacle : GoodIn wsL_law (wsV RL 124 RX6 yX6_openObstacle wsX6_openObstacle) := goodIn_app (goodIn_of _ (by decide +kernel)) ggL_law_X6_openObstacle
set_option maxRecDepth 20000 in
theorem ggL_law_L_open : GoodIn wsL_law wsL_open := goodIn_ca (goodIn_ca (goodIn_r _ [305, 115, 199, 306, 307, 308, 2, 309, 206, 207, 20, 243, 244, 245, 246, 124, 125, 103, 104, 105, 40, 106, 67, 277, 278, 279, 19, 280, 29, 41, 281, 209, 210, 28, 211, 46, 282, 283, 284, 285, 286, 287, 288, 289, 48, 290, 248, 249, 250, 182, 127, 128, 129, 66, 68, 69, 130, 131, 132, 133, 310, 311, 312, 313, 314, 315, 316, 317, 815, 816, 828, 829, 830, 831, 842, 843, 844, 845, 846, 847, 848, 849, 832, 833] (by decide +kernel) (by decide +kernel)) (goodIn_sub (fun _ h => List.mem_append_right _ h) (by decide +kernel))) (goodIn_sub (fun _ h => List.mem_append_left _ (List.mem_append_left _ (List.mem_append_right _ h))) (by decide +kernel))
set_option maxRecDepth 20000 in
theorem gL_law_L_open : GoodIn wsL_law (va_wsS RL 125 yL_open wsL_open) := goodIn_app (goodIn_of _ (by decide +kernel)) ggL_law_L_open
set_option maxRecDepth 20000 in
theorem ggL_law_X6_open : GoodIn wsL_law wsX6_open := goodIn_r _ [321, 83, 87, 232, 233, 234, 5, 235, 142, 143, 144, 295, 296, 297, 298, 228, 229, 230, 231, 299, 300, 301, 302, 255, 256, 257, 258, 165, 166, 167, 168, 88, 169, 170, 171, 172, 89, 173, 131, 132, 133, 149, 150, 151, 152, 145, 146, 147, 148, 111, 817, 818, 819, 820, 821, 822, 823, 824, 825, 826, 827] (by decide +kernel) (by decide +kernel)
set_option maxRecDepth 20000 in
theorem gL_law_X6_open : GoodIn wsL_law (wsV RL 127 RX6 yX6_open wsX6_open) := goodIn_app (goodIn_of _ (by decide +kernel)) ggL_law_X6_open
set_option maxRecDepth 20000 in
theorem ggL_law_L_shut : GoodIn wsL_law wsL_shut := goodIn_ca (goodIn_r _ [324, 115, 325, 326, 327, 2, 328, 20, 243, 244, 245, 246, 124, 125, 103, 104, 105, 40, 106, 67, 208, 209, 210, 28, 211, 46, 310, 311, 312, 313, 815, 816, 828, 829, 830, 831, 842, 843, 844, 845, 846, 847, 848, 849, 832, 833] (by decide +kernel) (by decide +kernel)) (goodIn_sub (fun _ h => List.mem_append_left _ (List.mem_append_left _ (List.mem_append_right _ h))) (by decide +kernel))
set_option maxRecDepth 20000 in
theorem gL_law_L_shut : GoodIn wsL_law (va_wsS RL 128 yL_shut wsL_shut) := goodIn_app (goodIn_of _ (by decide +kernel)) ggL_law_L_shut
set_option maxRecDepth 20000 in
theorem ggL_law_X6_shut : GoodIn wsL_law wsX6_shut := goodIn_r _ [332, 83, 232, 233, 234, 5, 235, 87, 142, 143, 144, 145, 146, 147, 148, 111, 228, 229, 230, 231, 817, 818, 819, 820, 821, 822, 823, 824, 825, 826, 827] (by decide +kernel) (by decide +kernel)
set_option maxRecDepth 20000 in
theorem gL_law_X6_shut : GoodIn wsL_law (wsV RL 130 RX6 yX6_shut wsX6_shut) := goodIn_app (goodIn_of _ (by decide +kernel)) ggL_law_X6_shut
set_option maxRecDepth 20000 in
theorem ggL_law_L_turnsOf : GoodIn wsL_law wsL_turnsOf := goodIn_ca (goodIn_r _ [335, 115, 336, 337, 338, 2, 339, 20, 243, 244, 245, 246, 124, 125, 103, 104, 105, 40, 106, 67, 340, 287, 288, 28, 289, 48, 815, 816, 828, 829, 830, 831, 842, 843, 844, 845, 846, 847, 848, 849, 832, 833] (by decide +kernel) (by decide +kernel)) (goodIn_sub (fun _ h => List.mem_append_left _ (List.mem_append_left _ (List.mem_append_right _ h))) (by decide +kernel))
set_option maxRecDepth 20000 in
theorem gL_law_L_turnsOf : GoodIn wsL_law (va_wsS RL 131 yL_turnsOf wsL_turnsOf) := goodIn_app (goodIn_of _ (by decide +kernel)) ggL_law_L_turnsOf
set_option maxRecDepth 20000 in
theorem ggL_law_X6_turnsOf : GoodIn wsL_law wsX6_turnsOf := goodIn_r _ [344, 83, 232, 233, 234, 5, 235, 87, 142, 143, 144, 145, 146, 147, 148, 111, 817, 818, 819, 820, 821, 822, 823, 824, 825, 826, 827] (by decide +kernel) (by decide +kernel)
set_option maxRecDepth 20000 in
theorem gL_law_X6_turnsOf : GoodIn wsL_law (wsV RL 133 RX6 yX6_turnsOf wsX6_turnsOf) := goodIn_app (goodIn_of _ (by decide +kernel)) ggL_law_X6_turnsOf
set_option maxRecDepth 20000 in
theorem ggL_law_L_wind : GoodIn wsL_law wsL_wind := goodIn_ca (goodIn_ca (goodIn_ca (goodIn_r _ [347, 115, 198, 199, 348, 349, 350, 2, 351, 204, 205, 206, 207, 20, 243, 244, 245, 246, 124, 125, 103, 104, 105, 40, 106, 67, 352, 353, 354, 28, 355, 356, 209, 210, 211, 46, 340, 287, 288, 289, 48, 357, 358, 359, 360, 815, 816, 828, 829, 830, 831, 842, 843, 844, 845, 846, 847, 848, 849, 832, 833] (by decide +kernel) (by decide +kernel)) (goodIn_sub (fun _ h => List.mem_append_left _ (List.mem_append_right _ h)) (by decide +kernel))) (goodIn_sub (fun _ h => List.mem_append_right _ h) (by decide +kernel))) (goodIn_sub (fun _ h => List.mem_append_left _ (List.mem_append_left _ (List.mem_append_right _ h))) (by decide +kernel))
set_option maxRecDepth 20000 in
theorem gL_law_L_wind : GoodIn wsL_law (va_wsS RL 134 yL_wind wsL_wind) := goodIn_app (goodIn_of _ (by decide +kernel)) ggL_law_L_wind
set_option maxRecDepth 20000 in
theorem ggL_law_X6_wind : GoodIn wsL_law wsX6_wind := goodIn_r _ [364, 83, 228, 229, 230, 5, 231, 232, 233, 234, 235, 87, 142, 143, 144, 145, 146, 147, 148, 111, 817, 818, 819, 820, 821, 822, 823, 824, 825, 826, 827] (by decide +kernel) (by decide +kernel)
set_option maxRecDepth 20000 in
theorem gL_law_X6_wind : GoodIn wsL_law (wsV RL 137 RX6 yX6_wind wsX6_wind) := goodIn_app (goodIn_of _ (by decide +kernel)) ggL_law_X6_wind
set_option maxRecDepth 20000 in
theorem ggL_law_L_pass : GoodIn wsL_law wsL_pass := goodIn_ca (goodIn_r _ [367, 198, 368, 369, 370, 2, 371, 204, 205, 20, 372, 373, 374, 19, 375, 41, 29, 376, 104, 105, 40, 106, 67, 377, 287, 288, 28, 289, 48, 378, 379, 380, 381, 182, 127, 128, 129, 66, 68, 69, 130, 131, 132, 133, 382, 383, 384, 385, 65, 386, 387, 388, 389, 390, 391, 392, 393, 394, 815, 816, 828, 829, 830, 831, 842, 843, 844, 845, 846, 847, 848, 849, 832, 833] (by decide +kernel) (by decide +kernel)) (goodIn_sub (fun _ h => List.mem_append_left _ (List.mem_append_right _ h)) (by decide +kernel))
set_option maxRecDepth 20000 in
theorem gL_law_L_pass : GoodIn wsL_law (va_wsS RL 138 yL_pass wsL_pass) := goodIn_app (goodIn_of _ (by decide +kernel)) ggL_law_L_pass
set_option maxRecDepth 20000 in
theorem ggL_law_X6_pass : GoodIn wsL_law wsX6_pass := goodIn_r _ [398, 142, 143, 5, 144, 145, 146, 147, 148, 111, 399, 400, 401, 402, 87, 83, 403, 404, 405, 406, 93, 73, 74, 75, 88, 407, 408, 409, 410, 165, 166, 167, 168, 169, 170, 171, 172, 89, 173, 131, 132, 133, 149, 150, 151, 152, 817, 818, 819, 820, 821, 822, 823, 824, 825, 826, 827] (by decide +kernel) (by decide +kernel)
set_option maxRecDepth 20000 in
theorem gL_law_X6_pass : GoodIn wsL_law (wsV RL 140 RX6 yX6_pass wsX6_pass) := goodIn_app (goodIn_of _ (by decide +kernel)) ggL_law_X6_pass
set_option maxRecDepth 20000 in
theorem ggL_law_X5_clock : GoodIn wsL_law wsX5_clock := goodIn_r _ [414, 20, 815, 816, 828, 829, 830, 831, 842, 843, 844, 845, 846, 847, 848, 849] (by decide +kernel) (by decide +kernel)
set_option maxRecDepth 20000 in
theorem gL_law_X5_clock : GoodIn wsL_law (wsV RL 141 RX5 yX5_clock wsX5_clock) := goodIn_app (goodIn_of _ (by decide +kernel)) ggL_law_X5_clock
set_option maxRecDepth 20000 in
theorem ggL_law_X6_clock : GoodIn wsL_law wsX6_clock := goodIn_r _ [418, 111, 83, 817, 818, 819, 820, 821, 822, 823, 824, 825, 826, 827] (by decide +kernel) (by decide +kernel)
set_option maxRecDepth 20000 in
theorem gL_law_X6_clock : GoodIn wsL_law (wsV RL 144 RX6 yX6_clock wsX6_clock) := goodIn_app (goodIn_of _ (by decide +kernel)) ggL_law_X6_clock
set_option maxRecDepth 20000 in
theorem ggL_law_L_addBoat : GoodIn wsL_law wsL_addBoat := goodIn_ca (goodIn_ca (goodIn_r _ [421, 198, 199, 422, 423, 424, 2, 425, 204, 205, 206, 207, 20, 178, 179, 180, 40, 181, 67, 68, 182, 127, 128, 129, 66, 69, 130, 131, 132, 133, 426, 427, 428, 19, 429, 41, 376, 104, 105, 106, 430, 431, 432, 32, 433, 434, 52, 53, 54, 815, 816, 828, 829, 830, 831, 834, 835, 836, 837, 842, 843, 844, 845, 846, 847, 848, 849] (by decide +kernel) (by decide +kernel)) (goodIn_sub (fun _ h => List.mem_append_left _ (List.mem_append_right _ h)) (by decide +kernel))) (goodIn_sub (fun _ h => List.mem_append_right _ h) (by decide +kernel))
set_option maxRecDepth 20000 in
theorem gL_law_L_addBoat : GoodIn wsL_law (va_wsS RL 145 yL_addBoat wsL_addBoat) := goodIn_app (goodIn_of _ (by decide +kernel)) ggL_law_L_addBoat
set_option maxRecDepth 20000 in
theorem ggL_law_X6_addBoat : GoodIn wsL_law wsX6_addBoat := goodIn_r _ [438, 439, 85, 86, 83, 87, 142, 143, 5, 144, 169, 170, 171, 172, 89, 173, 131, 132, 133, 145, 146, 147, 148, 111, 817, 818, 819, 820, 821, 822, 823, 824, 825, 826, 827] (by decide +kernel) (by decide +kernel)
set_option maxRecDepth 20000 in
theorem gL_law_X6_addBoat : GoodIn wsL_law (wsV RL 148 RX6 yX6_addBoat wsX6_addBoat) := goodIn_app (goodIn_of _ (by decide +kernel)) ggL_law_X6_addBoat
set_option maxRecDepth 20000 in
theorem ggL_law_X5_boatCount : GoodIn wsL_law wsX5_boatCount := goodIn_r _ [443, 20, 815, 816, 828, 829, 830, 831, 834, 835, 836, 837] (by decide +kernel) (by decide +kernel)
set_option maxRecDepth 20000 in
theorem gL_law_X5_boatCount : GoodIn wsL_law (wsV RL 149 RX5 yX5_boatCount wsX5_boatCount) := goodIn_app (goodIn_of _ (by decide +kernel)) ggL_law_X5_boatCount
set_option maxRecDepth 20000 in
theorem ggL_law_X6_boatCount : GoodIn wsL_law wsX6_boatCount := goodIn_r _ [447, 111, 439, 817, 818, 819, 820, 821, 822, 823, 824, 825, 826, 827] (by decide +kernel) (by decide +kernel)
set_option maxRecDepth 20000 in
theorem gL_law_X6_boatCount : GoodIn wsL_law (wsV RL 152 RX6 yX6_boatCount wsX6_boatCount) := goodIn_app (goodIn_of _ (by decide +kernel)) ggL_law_X6_boatCount
set_option maxRecDepth 20000 in
theorem ggL_law_L_placeOf : GoodIn wsL_law wsL_placeOf := goodIn_ca (goodIn_r _ [450, 115, 451, 452, 453, 2, 454, 20, 455, 456, 457, 458, 124, 125, 459, 460, 461, 32, 462, 54, 815, 816, 828, 829, 830, 831, 834, 835, 836, 837] (by decide +kernel) (by decide +kernel)) (goodIn_sub (fun _ h => List.mem_append_left _ (List.mem_append_left _ (List.mem_append_right _ h))) (by decide +kernel))
set_option maxRecDepth 20000 in
theorem gL_law_L_placeOf : GoodIn wsL_law (va_wsS RL 153 yL_placeOf wsL_placeOf) := goodIn_app (goodIn_of _ (by decide +kernel)) ggL_law_L_placeOf
set_option maxRecDepth 20000 in
theorem ggL_law_X6_placeOf : GoodIn wsL_law wsX6_placeOf := goodIn_r _ [466, 83, 467, 468, 469, 5, 470, 439, 142, 143, 144, 145, 146, 147, 148, 111, 817, 818, 819, 820, 821, 822, 823, 824, 825, 826, 827] (by decide +kernel) (by decide +kernel)
set_option maxRecDepth 20000 in
theorem gL_law_X6_placeOf : GoodIn wsL_law (wsV RL 155 RX6 yX6_placeOf wsX6_placeOf) := goodIn_app (goodIn_of _ (by decide +kernel)) ggL_law_X6_placeOf
set_option maxRecDepth 20000 in
theorem ggL_law_L_boatsAt : GoodIn wsL_law wsL_boatsAt := goodIn_ca (goodIn_r _ [473, 115, 474, 475, 476, 2, 477, 124, 125, 20, 426, 427, 428, 19, 429, 41, 376, 104, 105, 40, 106, 67, 478, 479, 480, 32, 481, 434, 482, 460, 461, 462, 54, 815, 816, 828, 829, 830, 831, 842, 843, 844, 845, 846, 847, 848, 849, 834, 835, 836, 837] (by decide +kernel) (by decide +kernel)) (goodIn_sub (fun _ h => List.mem_append_left _ (List.mem_append_left _ (List.mem_append_right _ h))) (by decide +kernel))
set_option maxRecDepth 20000 in
theorem gL_law_L_boatsAt : GoodIn wsL_law (va_wsS RL 156 yL_boatsAt wsL_boatsAt) := goodIn_app (goodIn_of _ (by decide +kernel)) ggL_law_L_boatsAt
set_option maxRecDepth 20000 in
theorem ggL_law_X6_boatsAt : GoodIn wsL_law wsX6_boatsAt := goodIn_r _ [486, 439, 83, 487, 488, 489, 5, 490, 87, 142, 143, 144, 145, 146, 147, 148, 111, 817, 818, 819, 820, 821, 822, 823, 824, 825, 826, 827] (by decide +kernel) (by decide +kernel)
set_option maxRecDepth 20000 in
theorem gL_law_X6_boatsAt : GoodIn wsL_law (wsV RL 158 RX6 yX6_boatsAt wsX6_boatsAt) := goodIn_app (goodIn_of _ (by decide +kernel)) ggL_law_X6_boatsAt
set_option maxRecDepth 20000 in
theorem ggL_law_L_freeLength : GoodIn wsL_law wsL_freeLength := goodIn_ca (goodIn_r _ [493, 115, 494, 495, 496, 2, 497, 20, 120, 121, 122, 123, 124, 125, 103, 104, 105, 40, 106, 67, 498, 499, 500, 32, 501, 434, 482, 460, 461, 462, 54, 502, 503, 504, 505, 52, 815, 816, 828, 829, 830, 831, 842, 843, 844, 845, 846, 847, 848, 849, 834, 835, 836, 837] (by decide +kernel) (by decide +kernel)) (goodIn_sub (fun _ h => List.mem_append_left _ (List.mem_append_left _ (List.mem_append_right _ h))) (by decide +kernel))
set_option maxRecDepth 20000 in
theorem gL_law_L_freeLength : GoodIn wsL_law (va_wsS RL 159 yL_freeLength wsL_freeLength) := goodIn_app (goodIn_of _ (by decide +kernel)) ggL_law_L_freeLength
set_option maxRecDepth 20000 in
theorem ggL_law_X6_freeLength : GoodIn wsL_law wsX6_freeLength := goodIn_r _ [509, 138, 139, 140, 5, 141, 87, 142, 143, 144, 145, 146, 147, 148, 111, 510, 511, 512, 513, 439, 83, 85, 817, 818, 819, 820, 821, 822, 823, 824, 825, 826, 827] (by decide +kernel) (by decide +kernel)
set_option maxRecDepth 20000 in
theorem gL_law_X6_freeLength : GoodIn wsL_law (wsV RL 161 RX6 yX6_freeLength wsX6_freeLength) := goodIn_app (goodIn_of _ (by decide +kernel)) ggL_law_X6_freeLength
set_option maxRecDepth 20000 in
theorem ggL_law_L_moveObstacle : GoodIn wsL_law wsL_moveObstacle := goodIn_ca (goodIn_r _ [516, 115, 517, 518, 519, 2, 520, 20, 455, 456, 457, 458, 124, 125, 521, 522, 523, 19, 524, 29, 525, 526, 527, 528, 33, 529, 460, 461, 32, 462, 54, 530, 427, 428, 429, 41, 376, 104, 105, 40, 106, 67, 531, 532, 533, 534, 535, 73, 74, 75, 281, 209, 210, 28, 211, 46, 536, 537, 538, 539, 540, 179, 180, 181, 68, 182, 127, 128, 129, 66, 69, 130, 131, 132, 133, 541, 542, 543, 544, 53, 545, 499, 500, 501, 434, 482, 502, 503, 504, 505, 52, 546, 815, 816, 828, 829, 830, 831, 834, 835, 836, 837, 842, 843, 844, 845, 846, 847, 848, 849, 832, 833] (by decide +kernel) (by decide +kernel)) (goodIn_sub (fun _ h => List.mem_append_left _ (List.mem_append_left _ (List.mem_append_right _ h))) (by decide +kernel))
set_option maxRecDepth 20000 in
theorem gL_law_L_moveObstacle : GoodIn wsL_law (va_wsS RL 162 yL_moveObstacle wsL_moveObstacle) := goodIn_app (goodIn_of _ (by decide +kernel)) ggL_law_L_moveObstacle
set_option maxRecDepth 20000 in
theorem ggL_law_X6_moveObstacle : GoodIn wsL_law wsX6_moveObstacle := goodIn_r _ [550, 467, 468, 469, 5, 470, 439, 142, 143, 144, 145, 146, 147, 148, 111, 551, 552, 553, 554, 555, 556, 557, 558, 83, 487, 488, 489, 490, 87, 559, 560, 561, 562, 228, 229, 230, 231, 232, 233, 234, 235, 563, 564, 565, 566, 85, 86, 510, 511, 512, 513, 169, 170, 171, 172, 89, 173, 131, 132, 133, 817, 818, 819, 820, 821, 822, 823, 824, 825, 826, 827] (by decide +kernel) (by decide +kernel)
set_option maxRecDepth 20000 in
theorem gL_law_X6_moveObstacle : GoodIn wsL_law (wsV RL 165 RX6 yX6_moveObstacle wsX6_moveObstacle) := goodIn_app (goodIn_of _ (by decide +kernel)) ggL_law_X6_moveObstacle
set_option maxRecDepth 20000 in
theorem ggL_law_L_move : GoodIn wsL_law wsL_move := goodIn_ca (goodIn_ca (goodIn_r _ [569, 115, 199, 570, 571, 572, 2, 573, 206, 207, 20, 455, 456, 457, 458, 124, 125, 521, 522, 523, 19, 524, 29, 525, 526, 527, 528, 33, 529, 460, 461, 32, 462, 54, 530, 427, 428, 429, 41, 376, 104, 105, 40, 106, 67, 531, 532, 533, 534, 535, 73, 74, 75, 281, 209, 210, 28, 211, 46, 536, 537, 538, 539, 540, 179, 180, 181, 68, 182, 127, 128, 129, 66, 69, 130, 131, 132, 133, 541, 542, 543, 544, 53, 545, 499, 500, 501, 434, 482, 502, 503, 504, 505, 52, 546, 574, 575, 576, 577, 578, 459, 815, 816, 828, 829, 830, 831, 834, 835, 836, 837, 842, 843, 844, 845, 846, 847, 848, 849, 832, 833] (by decide +kernel) (by decide +kernel)) (goodIn_sub (fun _ h => List.mem_append_right _ h) (by decide +kernel))) (goodIn_sub (fun _ h => List.mem_append_left _ (List.mem_append_left _ (List.mem_append_right _ h))) (by decide +kernel))
set_option maxRecDepth 20000 in
theorem gL_law_L_move : GoodIn wsL_law (va_wsS RL 166 yL_move wsL_move) := goodIn_app (goodIn_of _ (by decide +kernel)) ggL_law_L_move
set_option maxRecDepth 20000 in
theorem ggL_law_X6_move : GoodIn wsL_law wsX6_move := goodIn_r _ [582, 83, 467, 468, 469, 5, 470, 439, 142, 143, 144, 551, 552, 553, 554, 555, 556, 557, 558, 487, 488, 489, 490, 87, 559, 560, 561, 562, 228, 229, 230, 231, 232, 233, 234, 235, 563, 564, 565, 566, 85, 86, 510, 511, 512, 513, 169, 170, 171, 172, 89, 173, 131, 132, 133, 145, 146, 147, 148, 111, 817, 818, 819, 820, 821, 822, 823, 824, 825, 826, 827] (by decide +kernel) (by decide +kernel)
set_option maxRecDepth 20000 in
theorem gL_law_X6_move : GoodIn wsL_law (wsV RL 168 RX6 yX6_move wsX6_move) := goodIn_app (goodIn_of _ (by decide +kernel)) ggL_law_X6_move
set_option maxRecDepth 20000 in
theorem ggL_law_L_take : GoodIn wsL_law wsL_take := goodIn_ca (goodIn_r _ [585, 115, 586, 587, 588, 2, 589, 20, 455, 456, 457, 458, 124, 125, 590, 591, 592, 19, 593, 37, 29, 33, 41, 594, 595, 596, 36, 597, 60, 598, 599, 600, 28, 601, 602, 311, 312, 313, 46, 603, 358, 359, 360, 48, 530, 427, 428, 429, 376, 104, 105, 40, 106, 67, 529, 460, 461, 32, 462, 54, 525, 526, 527, 528, 531, 532, 533, 534, 535, 73, 74, 75, 604, 605, 606, 607, 608, 609, 610, 248, 249, 250, 182, 127, 128, 129, 66, 68, 69, 130, 131, 132, 133, 382, 383, 384, 385, 65, 611, 379, 380, 381, 386, 387, 388, 389, 390, 391, 392, 393, 394, 612, 613, 614, 615, 616, 617, 618, 619, 620, 621, 622, 623, 624, 625, 626, 627, 628, 629, 630, 58, 59, 631, 536, 537, 538, 539, 540, 179, 180, 181, 541, 542, 543, 544, 53, 545, 499, 500, 501, 434, 482, 502, 503, 504, 505, 52, 546, 632, 576, 577, 578, 459, 815, 816, 828, 829, 830, 831, 834, 835, 836, 837, 838, 839, 840, 841, 832, 833, 842, 843, 844, 845, 846, 847, 848, 849] (by decide +kernel) (by decide +kernel)) (goodIn_sub (fun _ h => List.mem_append_left _ (List.mem_append_left _ (List.mem_append_right _ h))) (by decide +kernel))
set_option maxRecDepth 20000 in
theorem gL_law_L_take : GoodIn wsL_law (va_wsS RL 169 yL_take wsL_take) := goodIn_app (goodIn_of _ (by decide +kernel)) ggL_law_L_take
set_option maxRecDepth 20000 in
theorem ggL_law_X6_take : GoodIn wsL_law wsX6_take := goodIn_r _ [636, 83, 467, 468, 469, 5, 470, 439, 142, 143, 144, 145, 146, 147, 148, 111, 637, 638, 639, 640, 87, 555, 556, 557, 558, 487, 488, 489, 490, 641, 642, 643, 644, 559, 560, 561, 562, 645, 646, 647, 648, 88, 649, 650, 651, 652, 255, 256, 257, 258, 165, 166, 167, 168, 169, 170, 171, 172, 89, 173, 131, 132, 133, 149, 150, 151, 152, 653, 654, 655, 656, 657, 658, 659, 660, 661, 662, 663, 664, 407, 408, 409, 410, 665, 666, 667, 668, 669, 670, 671, 672, 403, 404, 405, 406, 93, 73, 74, 75, 673, 674, 675, 676, 677, 678, 679, 680, 563, 564, 565, 566, 85, 86, 510, 511, 512, 513, 817, 818, 819, 820, 821, 822, 823, 824, 825, 826, 827] (by decide +kernel) (by decide +kernel)
set_option maxRecDepth 20000 in
theorem gL_law_X6_take : GoodIn wsL_law (wsV RL 171 RX6 yX6_take wsX6_take) := goodIn_app (goodIn_of _ (by decide +kernel)) ggL_law_X6_take
set_option maxRecDepth 20000 in
theorem ggL_law_X5_reportLength : GoodIn wsL_law wsX5_reportLength := goodIn_r _ [684, 20, 685, 686, 687, 36, 688, 60, 631, 815, 816, 828, 829, 830, 831, 838, 839, 840, 841] (by decide +kernel) (by decide +kernel)
set_option maxRecDepth 20000 in
theorem gL_law_X5_reportLength : GoodIn wsL_law (wsV RL 172 RX5 yX5_reportLength wsX5_reportLength) := goodIn_app (goodIn_of _ (by decide +kernel)) ggL_law_X5_reportLength
set_option maxRecDepth 20000 in
theorem ggL_law_X6_reportLength : GoodIn wsL_law wsX6_reportLength := goodIn_r _ [692, 111, 83, 817, 818, 819, 820, 821, 822, 823, 824, 825, 826, 827] (by decide +kernel) (by decide +kernel)
set_option maxRecDepth 20000 in
theorem gL_law_X6_reportLength : GoodIn wsL_law (wsV RL 175 RX6 yX6_reportLength wsX6_reportLength) := goodIn_app (goodIn_of _ (by decide +kernel)) ggL_law_X6_reportLength
set_option maxRecDepth 20000 in
theorem ggL_law_X5_reportKind : GoodIn wsL_law wsX5_reportKind := goodIn_r _ [696, 20, 697, 698, 699, 36, 700, 631, 60, 701, 686, 687, 688, 815, 816, 828, 829, 830, 831, 838, 839, 840, 841] (by decide +kernel) (by decide +kernel)
set_option maxRecDepth 20000 in
theorem gL_law_X5_reportKind : GoodIn wsL_law (wsV RL 176 RX5 yX5_reportKind wsX5_reportKind) := goodIn_app (goodIn_of _ (by decide +kernel)) ggL_law_X5_reportKind
set_option maxRecDepth 20000 in
theorem ggL_law_X6_reportKind : GoodIn wsL_law wsX6_reportKind := goodIn_r _ [705, 111, 83, 142, 143, 5, 144, 817, 818, 819, 820, 821, 822, 823, 824, 825, 826, 827] (by decide +kernel) (by decide +kernel)
set_option maxRecDepth 20000 in
theorem gL_law_X6_reportKind : GoodIn wsL_law (wsV RL 179 RX6 yX6_reportKind wsX6_reportKind) := goodIn_app (goodIn_of _ (by decide +kernel)) ggL_law_X6_reportKind
set_option maxRecDepth 20000 in
theorem ggL_law_X5_reportNumber : GoodIn wsL_law wsX5_reportNumber := goodIn_r _ [709, 20, 710, 711, 712, 36, 713, 58, 59, 714, 698, 699, 700, 631, 60, 701, 686, 687, 688, 815, 816, 828, 829, 830, 831, 838, 839, 840, 841] (by decide +kernel) (by decide +kernel)
set_option maxRecDepth 20000 in
theorem gL_law_X5_reportNumber : GoodIn wsL_law (wsV RL 180 RX5 yX5_reportNumber wsX5_reportNumber) := goodIn_app (goodIn_of _ (by decide +kernel)) ggL_law_X5_reportNumber
set_option maxRecDepth 20000 in
theorem ggL_law_X6_reportNumber : GoodIn wsL_law wsX6_reportNumber := goodIn_r _ [718, 111, 83, 142, 143, 5, 144, 817, 818, 819, 820, 821, 822, 823, 824, 825, 826, 827] (by decide +kernel) (by decide +kernel)
set_option maxRecDepth 20000 in
theorem gL_law_X6_reportNumber : GoodIn wsL_law (wsV RL 183 RX6 yX6_reportNumber wsX6_reportNumber) := goodIn_app (goodIn_of _ (by decide +kernel)) ggL_law_X6_reportNumber
set_option maxRecDepth 20000 in
theorem ggL_law_L_minutesFor : GoodIn wsL_law wsL_minutesFor := goodIn_ca (goodIn_r _ [721, 115, 722, 723, 724, 2, 725, 21, 20, 455, 456, 457, 458, 124, 125, 726, 727, 728, 19, 729, 41, 33, 730, 731, 732, 40, 733, 67, 619, 73, 74, 75, 734, 735, 736, 737, 69, 394, 217, 609, 738, 739, 740, 32, 741, 52, 742, 53, 54, 434, 590, 591, 592, 593, 37, 29, 594, 595, 596, 36, 597, 60, 598, 599, 600, 28, 601, 602, 311, 312, 313, 46, 603, 358, 359, 360, 48, 530, 427, 428, 429, 376, 104, 105, 106, 529, 460, 461, 462, 525, 526, 527, 528, 531, 532, 533, 534, 535, 604, 605, 606, 607, 608, 610, 248, 249, 250, 182, 127, 128, 129, 66, 68, 130, 131, 132, 133, 382, 383, 384, 385, 65, 611, 379, 380, 381, 386, 387, 388, 389, 390, 391, 392, 393, 612, 613, 614, 615, 616, 617, 618, 620, 621, 622, 623, 624, 625, 626, 627, 628, 629, 630, 58, 59, 631, 536, 537, 538, 539, 540, 179, 180, 181, 541, 542, 543, 544, 545, 499, 500, 501, 482, 502, 503, 504, 505, 546, 632, 576, 577, 578, 685, 686, 687, 688, 815, 816, 828, 829, 830, 831, 842, 843, 844, 845, 846, 847, 848, 849, 834, 835, 836, 837, 838, 839, 840, 841, 832, 833] (by decide +kernel) (by decide +kernel)) (goodIn_sub (fun _ h => List.mem_append_left _ (List.mem_append_left _ (List.mem_append_right _ h))) (by decide +kernel))
set_option maxRecDepth 20000 in
theorem gL_law_L_minutesFor : GoodIn wsL_law (va_wsS RL 184 yL_minutesFor wsL_minutesFor) := goodIn_app (goodIn_of _ (by decide +kernel)) ggL_law_L_minutesFor
set_option maxRecDepth 20000 in
theorem ggL_law_X6_minutesFor : GoodIn wsL_law wsX6_minutesFor := goodIn_r _ [746, 83, 467, 468, 469, 5, 470, 439, 142, 143, 144, 145, 146, 147, 148, 111, 747, 748, 749, 750, 84, 637, 638, 639, 640, 87, 555, 556, 557, 558, 487, 488, 489, 490, 641, 642, 643, 644, 559, 560, 561, 562, 645, 646, 647, 648, 88, 649, 650, 651, 652, 255, 256, 257, 258, 165, 166, 167, 168, 169, 170, 171, 172, 89, 173, 131, 132, 133, 149, 150, 151, 152, 653, 654, 655, 656, 657, 658, 659, 660, 661, 662, 663, 664, 407, 408, 409, 410, 665, 666, 667, 668, 669, 670, 671, 672, 403, 404, 405, 406, 93, 73, 74, 75, 673, 674, 675, 676, 677, 678, 679, 680, 563, 564, 565, 566, 85, 86, 510, 511, 512, 513, 751, 752, 753, 754, 817, 818, 819, 820, 821, 822, 823, 824, 825, 826, 827] (by decide +kernel) (by decide +kernel)
set_option maxRecDepth 20000 in
theorem gL_law_X6_minutesFor : GoodIn wsL_law (wsV RL 186 RX6 yX6_minutesFor wsX6_minutesFor) := goodIn_app (goodIn_of _ (by decide +kernel)) ggL_law_X6_minutesFor
set_option maxRecDepth 20000 in
theorem ggL_law_L_waterFor : GoodIn wsL_law wsL_waterFor := goodIn_ca (goodIn_r _ [757, 115, 758, 759, 760, 2, 761, 21, 20, 455, 456, 457, 458, 124, 125, 726, 727, 728, 19, 729, 41, 33, 730, 731, 732, 40, 733, 67, 619, 73, 74, 75, 734, 735, 736, 737, 69, 394, 217, 609, 738, 739, 740, 32, 741, 52, 742, 53, 54, 434, 590, 591, 592, 593, 37, 29, 594, 595, 596, 36, 597, 60, 598, 599, 600, 28, 601, 602, 311, 312, 313, 46, 603, 358, 359, 360, 48, 530, 427, 428, 429, 376, 104, 105, 106, 529, 460, 461, 462, 525, 526, 527, 528, 531, 532, 533, 534, 535, 604, 605, 606, 607, 608, 610, 248, 249, 250, 182, 127, 128, 129, 66, 68, 130, 131, 132, 133, 382, 383, 384, 385, 65, 611, 379, 380, 381, 386, 387, 388, 389, 390, 391, 392, 393, 612, 613, 614, 615, 616, 617, 618, 620, 621, 622, 623, 624, 625, 626, 627, 628, 629, 630, 58, 59, 631, 536, 537, 538, 539, 540, 179, 180, 181, 541, 542, 543, 544, 545, 499, 500, 501, 482, 502, 503, 504, 505, 546, 632, 576, 577, 578, 815, 816, 828, 829, 830, 831, 842, 843, 844, 845, 846, 847, 848, 849, 834, 835, 836, 837, 838, 839, 840, 841, 832, 833] (by decide +kernel) (by decide +kernel)) (goodIn_sub (fun _ h => List.mem_append_left _ (List.mem_append_left _ (List.mem_append_right _ h))) (by decide +kernel))
set_option maxRecDepth 20000 in
theorem gL_law_L_waterFor : GoodIn wsL_law (va_wsS RL 187 yL_waterFor wsL_waterFor) := goodIn_app (goodIn_of _ (by decide +kernel)) ggL_law_L_waterFor
set_option maxRecDepth 20000 in
theorem ggL_law_X6_waterFor : GoodIn wsL_law wsX6_waterFor := goodIn_r _ [765, 83, 467, 468, 469, 5, 470, 439, 142, 143, 144, 145, 146, 147, 148, 111, 747, 748, 749, 750, 84, 637, 638, 639, 640, 87, 555, 556, 557, 558, 487, 488, 489, 490, 641, 642, 643, 644, 559, 560, 561, 562, 645, 646, 647, 648, 88, 649, 650, 651, 652, 255, 256, 257, 258, 165, 166, 167, 168, 169, 170, 171, 172, 89, 173, 131, 132, 133, 149, 150, 151, 152, 653, 654, 655, 656, 657, 658, 659, 660, 661, 662, 663, 664, 407, 408, 409, 410, 665, 666, 667, 668, 669, 670, 671, 672, 403, 404, 405, 406, 93, 73, 74, 75, 673, 674, 675, 676, 677, 678, 679, 680, 563, 564, 565, 566, 85, 86, 510, 511, 512, 513, 751, 752, 753, 754, 817, 818, 819, 820, 821, 822, 823, 824, 825, 826, 827] (by decide +kernel) (by decide +kernel)
set_option maxRecDepth 20000 in
theorem gL_law_X6_waterFor : GoodIn wsL_law (wsV RL 189 RX6 yX6_waterFor wsX6_waterFor) := goodIn_app (goodIn_of _ (by decide +kernel)) ggL_law_X6_waterFor
set_option maxRecDepth 20000 in
theorem ggL_law_X5_lostWater : GoodIn wsL_law wsX5_lostWater := goodIn_r _ [769, 20, 815, 816, 828, 829, 830, 831, 842, 843, 844, 845, 846, 847, 848, 849] (by decide +kernel) (by decide +kernel)
set_option maxRecDepth 20000 in
theorem gL_law_X5_lostWater : GoodIn wsL_law (wsV RL 190 RX5 yX5_lostWater wsX5_lostWater) := goodIn_app (goodIn_of _ (by decide +kernel)) ggL_law_X5_lostWater
set_option maxRecDepth 20000 in
theorem ggL_law_X6_lostWater : GoodIn wsL_law wsX6_lostWater := goodIn_r _ [773, 111, 83, 817, 818, 819, 820, 821, 822, 823, 824, 825, 826, 827] (by decide +kernel) (by decide +kernel)
set_option maxRecDepth 20000 in
theorem gL_law_X6_lostWater : GoodIn wsL_law (wsV RL 193 RX6 yX6_lostWater wsX6_lostWater) := goodIn_app (goodIn_of _ (by decide +kernel)) ggL_law_X6_lostWater
set_option maxRecDepth 20000 in
theorem ggL_law_X5_meanLevel : GoodIn wsL_law wsX5_meanLevel := goodIn_r _ [777, 20, 103, 104, 105, 40, 106, 67, 126, 127, 128, 129, 66, 68, 69, 130, 131, 132, 133, 815, 816, 828, 829, 830, 831, 842, 843, 844, 845, 846, 847, 848, 849] (by decide +kernel) (by decide +kernel)
set_option maxRecDepth 20000 in
theorem gL_law_X5_meanLevel : GoodIn wsL_law (wsV RL 194 RX5 yX5_meanLevel wsX5_meanLevel) := goodIn_app (goodIn_of _ (by decide +kernel)) ggL_law_X5_meanLevel
set_option maxRecDepth 20000 in
theorem ggL_law_X6_meanLevel : GoodIn wsL_law wsX6_meanLevel := goodIn_r _ [781, 111, 87, 149, 150, 151, 5, 152, 88, 83, 817, 818, 819, 820, 821, 822, 823, 824, 825, 826, 827] (by decide +kernel) (by decide +kernel)
set_option maxRecDepth 20000 in
theorem gL_law_X6_meanLevel : GoodIn wsL_law (wsV RL 198 RX6 yX6_meanLevel wsX6_meanLevel) := goodIn_app (goodIn_of _ (by decide +kernel)) ggL_law_X6_meanLevel
set_option maxRecDepth 20000 in
theorem ggL_law_X5_poundPart : GoodIn wsL_law wsX5_poundPart := goodIn_r _ [785, 20, 786, 219, 220, 40, 221, 66, 815, 816, 828, 829, 830, 831, 842, 843, 844, 845, 846, 847, 848, 849] (by decide +kernel) (by decide +kernel)
set_option maxRecDepth 20000 in
theorem gL_law_X5_poundPart : GoodIn wsL_law (wsV RL 199 RX5 yX5_poundPart wsX5_poundPart) := goodIn_app (goodIn_of _ (by decide +kernel)) ggL_law_X5_poundPart
set_option maxRecDepth 20000 in
theorem ggL_law_X6_poundPart : GoodIn wsL_law wsX6_poundPart := goodIn_r _ [790, 111, 83, 95, 96, 97, 5, 98, 89, 817, 818, 819, 820, 821, 822, 823, 824, 825, 826, 827] (by decide +kernel) (by decide +kernel)
set_option maxRecDepth 20000 in
theorem gL_law_X6_poundPart : GoodIn wsL_law (wsV RL 203 RX6 yX6_poundPart wsX6_poundPart) := goodIn_app (goodIn_of _ (by decide +kernel)) ggL_law_X6_poundPart
set_option maxRecDepth 20000 in
theorem ggL_law_X5_isConsistent : GoodIn wsL_law wsX5_isConsistent := goodIn_r _ [794, 20, 795, 796, 797, 19, 798, 41, 29, 376, 104, 105, 40, 106, 67, 281, 209, 210, 28, 211, 46, 290, 248, 249, 250, 182, 127, 128, 129, 66, 68, 69, 130, 131, 132, 133, 282, 283, 284, 285, 286, 287, 288, 289, 48, 799, 800, 801, 802, 33, 530, 427, 428, 429, 545, 499, 500, 32, 501, 434, 482, 460, 461, 462, 54, 502, 503, 504, 505, 52, 803, 804, 805, 806, 394, 217, 382, 383, 384, 385, 65, 386, 387, 388, 389, 218, 219, 220, 221, 815, 816, 828, 829, 830, 831, 842, 843, 844, 845, 846, 847, 848, 849, 832, 833, 834, 835, 836, 837] (by decide +kernel) (by decide +kernel)
set_option maxRecDepth 20000 in
theorem gL_law_X5_isConsistent : GoodIn wsL_law (wsV RL 204 RX5 yX5_isConsistent wsX5_isConsistent) := goodIn_app (goodIn_of _ (by decide +kernel)) ggL_law_X5_isConsistent
set_option maxRecDepth 20000 in
theorem ggL_law_X6_isConsistent : GoodIn wsL_law wsX6_isConsistent := goodIn_r _ [810, 111, 83, 227, 226, 87, 88, 142, 143, 5, 144, 510, 511, 512, 513, 439, 85, 811, 812, 813, 814, 228, 229, 230, 231, 232, 233, 234, 235, 255, 256, 257, 258, 165, 166, 167, 168, 169, 170, 171, 172, 89, 173, 131, 132, 133, 149, 150, 151, 152, 299, 300, 301, 302, 95, 96, 97, 98, 817, 818, 819, 820, 821, 822, 823, 824, 825, 826, 827] (by decide +kernel) (by decide +kernel)
set_option maxRecDepth 20000 in
theorem gL_law_X6_isConsistent : GoodIn wsL_law (wsV RL 208 RX6 yX6_isConsistent wsX6_isConsistent) := goodIn_app (goodIn_of _ (by decide +kernel)) ggL_law_X6_isConsistent
theorem dL_law_0 : decode cL_law 0 = .ok (.new 8, 3) := by decide +kernel
theorem dL_law_3 : decode cL_law 3 = .ok (.dup, 1) := by decide +kernel
theorem dL_law_4 : decode cL_law 4 = .ok (.aload_n 0, 1) := by decide +kernel
theorem dL_law_5 : decode cL_law 5 = .ok (.iconst 0, 1) := by decide +kernel
theorem dL_law_6 : decode cL_law 6 = .ok (.invokestatic 77, 3) := by decide +kernel
theorem dL_law_9 : decode cL_law 9 = .ok (.aload_n 0, 1) := by decide +kernel
theorem dL_law_10 : decode cL_law 10 = .ok (.iconst 1, 1) := by decide +kernel
theorem dL_law_11 : decode cL_law 11 = .ok (.invokestatic 77, 3) := by decide +kernel
theorem dL_law_14 : decode cL_law 14 = .ok (.aload_n 0, 1) := by decide +kernel
theorem dL_law_15 : decode cL_law 15 = .ok (.iconst 2, 1) := by decide +kernel
theorem dL_law_16 : decode cL_law 16 = .ok (.invokestatic 77, 3) := by decide +kernel
theorem dL_law_19 : decode cL_law 19 = .ok (.invokespecial 83, 3) := by decide +kernel
theorem dL_law_22 : decode cL_law 22 = .ok (.astore_n 1, 1) := by decide +kernel
theorem dL_law_23 : decode cL_law 23 = .ok (.new 86, 3) := by decide +kernel
theorem dL_law_26 : decode cL_law 26 = .ok (.dup, 1) := by decide +kernel
theorem dL_law_27 : decode cL_law 27 = .ok (.aload_n 0, 1) := by decide +kernel
theorem dL_law_28 : decode cL_law 28 = .ok (.iconst 0, 1) := by decide +kernel
theorem dL_law_29 : decode cL_law 29 = .ok (.invokestatic 77, 3) := by decide +kernel
theorem dL_law_32 : decode cL_law 32 = .ok (.aload_n 0, 1) := by decide +kernel
theorem dL_law_33 : decode cL_law 33 = .ok (.iconst 1, 1) := by decide +kernel
theorem dL_law_34 : decode cL_law 34 = .ok (.invokestatic 77, 3) := by decide +kernel
theorem dL_law_37 : decode cL_law 37 = .ok (.aload_n 0, 1) := by decide +kernel
theorem dL_law_38 : decode cL_law 38 = .ok (.iconst 2, 1) := by decide +kernel
theorem dL_law_39 : decode cL_law 39 = .ok (.invokestatic 77, 3) := by decide +kernel
theorem dL_law_42 : decode cL_law 42 = .ok (.invokespecial 88, 3) := by decide +kernel
theorem dL_law_45 : decode cL_law 45 = .ok (.astore_n 2, 1) := by decide +kernel
theorem dL_law_46 : decode cL_law 46 = .ok (.iconst 1, 1) := by decide +kernel
theorem dL_law_47 : decode cL_law 47 = .ok (.newarray .long, 2) := by decide +kernel
theorem dL_law_49 : decode cL_law 49 = .ok (.astore_n 3, 1) := by decide +kernel
theorem dL_law_50 : decode cL_law 50 = .ok (.iconst 3, 1) := by decide +kernel
theorem dL_law_51 : decode cL_law 51 = .ok (.istore 4, 2) := by decide +kernel
theorem dL_law_53 : decode cL_law 53 = .ok (.iload 4, 2) := by decide +kernel
theorem dL_law_55 : decode cL_law 55 = .ok (.aload_n 0, 1) := by decide +kernel
theorem dL_law_56 : decode cL_law 56 = .ok (.arraylength, 1) := by decide +kernel
theorem dL_law_57 : decode cL_law 57 = .ok (.iconst 4, 1) := by decide +kernel
theorem dL_law_58 : decode cL_law 58 = .ok (.isub, 1) := by decide +kernel
theorem dL_law_59 : decode cL_law 59 = .ok (.if_icmp .gt 1680, 3) := by decide +kernel
theorem dL_law_62 : decode cL_law 62 = .ok (.aload_n 0, 1) := by decide +kernel
theorem dL_law_63 : decode cL_law 63 = .ok (.iload 4, 2) := by decide +kernel
theorem dL_law_65 : decode cL_law 65 = .ok (.iaload, 1) := by decide +kernel
theorem dL_law_66 : decode cL_law 66 = .ok (.bipush 31, 2) := by decide +kernel
theorem dL_law_68 : decode cL_law 68 = .ok (.iand, 1) := by decide +kernel
theorem dL_law_69 : decode cL_law 69 = .ok (.tableswitch 1664 0 31 #[143, 156, 212, 225, 238, 251, 307, 363, 426, 482, 538, 601, 657, 725, 781, 794, 890, 903, 959, 1015, 1071, 1155, 1239, 1323, 1336, 1361, 1386, 1470, 1554, 1567, 1608, 1651], 143) := by decide +kernel
theorem dL_law_212 : decode cL_law 212 = .ok (.aload_n 1, 1) := by decide +kernel
theorem dL_law_213 : decode cL_law 213 = .ok (.invokevirtual 89, 3) := by decide +kernel
theorem dL_law_216 : decode cL_law 216 = .ok (.aload_n 2, 1) := by decide +kernel
theorem dL_law_217 : decode cL_law 217 = .ok (.invokevirtual 93, 3) := by decide +kernel
theorem dL_law_220 : decode cL_law 220 = .ok (.if_icmp .eq 1513, 3) := by decide +kernel
theorem dL_law_223 : decode cL_law 223 = .ok (.iconst 0, 1) := by decide +kernel
theorem dL_law_224 : decode cL_law 224 = .ok (.ireturn, 1) := by decide +kernel
theorem dL_law_225 : decode cL_law 225 = .ok (.aload_n 1, 1) := by decide +kernel
theorem dL_law_226 : decode cL_law 226 = .ok (.aload_n 0, 1) := by decide +kernel
theorem dL_law_227 : decode cL_law 227 = .ok (.iload 4, 2) := by decide +kernel
theorem dL_law_229 : decode cL_law 229 = .ok (.iconst 1, 1) := by decide +kernel
theorem dL_law_230 : decode cL_law 230 = .ok (.iadd, 1) := by decide +kernel
theorem dL_law_231 : decode cL_law 231 = .ok (.iaload, 1) := by decide +kernel
theorem dL_law_232 : decode cL_law 232 = .ok (.aload_n 3, 1) := by decide +kernel
theorem dL_law_233 : decode cL_law 233 = .ok (.invokestatic 94, 3) := by decide +kernel
theorem dL_law_236 : decode cL_law 236 = .ok (.istore 5, 2) := by decide +kernel
theorem dL_law_238 : decode cL_law 238 = .ok (.aload_n 2, 1) := by decide +kernel
theorem dL_law_239 : decode cL_law 239 = .ok (.aload_n 0, 1) := by decide +kernel
theorem dL_law_240 : decode cL_law 240 = .ok (.iload 4, 2) := by decide +kernel
theorem dL_law_242 : decode cL_law 242 = .ok (.iconst 1, 1) := by decide +kernel
theorem dL_law_243 : decode cL_law 243 = .ok (.iadd, 1) := by decide +kernel
theorem dL_law_244 : decode cL_law 244 = .ok (.iaload, 1) := by decide +kernel
theorem dL_law_245 : decode cL_law 245 = .ok (.invokevirtual 97, 3) := by decide +kernel
theorem dL_law_248 : decode cL_law 248 = .ok (.istore 6, 2) := by decide +kernel
theorem dL_law_250 : decode cL_law 250 = .ok (.aload_n 2, 1) := by decide +kernel
theorem dL_law_251 : decode cL_law 251 = .ok (.invokevirtual 98, 3) := by decide +kernel
theorem dL_law_254 : decode cL_law 254 = .ok (.iload 5, 2) := by decide +kernel
theorem dL_law_256 : decode cL_law 256 = .ok (.if_icmp .eq 5, 3) := by decide +kernel
theorem dL_law_259 : decode cL_law 259 = .ok (.iconst 0, 1) := by decide +kernel
theorem dL_law_260 : decode cL_law 260 = .ok (.ireturn, 1) := by decide +kernel
theorem dL_law_261 : decode cL_law 261 = .ok (.iload 5, 2) := by decide +kernel
theorem dL_law_263 : decode cL_law 263 = .ok (.ifCond .ne 15, 3) := by decide +kernel
theorem dL_law_266 : decode cL_law 266 = .ok (.aload_n 3, 1) := by decide +kernel
theorem dL_law_267 : decode cL_law 267 = .ok (.iconst 0, 1) := by decide +kernel
theorem dL_law_268 : decode cL_law 268 = .ok (.laload, 1) := by decide +kernel
theorem dL_law_269 : decode cL_law 269 = .ok (.iload 6, 2) := by decide +kernel
theorem dL_law_271 : decode cL_law 271 = .ok (.i2l, 1) := by decide +kernel
theorem dL_law_272 : decode cL_law 272 = .ok (.lcmp, 1) := by decide +kernel
theorem dL_law_273 : decode cL_law 273 = .ok (.ifCond .eq 5, 3) := by decide +kernel
theorem dL_law_276 : decode cL_law 276 = .ok (.iconst 0, 1) := by decide +kernel
theorem dL_law_277 : decode cL_law 277 = .ok (.ireturn, 1) := by decide +kernel
theorem dL_law_278 : decode cL_law 278 = .ok (.goto 1455, 3) := by decide +kernel
theorem dL_law_281 : decode cL_law 281 = .ok (.aload_n 1, 1) := by decide +kernel
theorem dL_law_282 : decode cL_law 282 = .ok (.invokevirtual 101, 3) := by decide +kernel
theorem dL_law_285 : decode cL_law 285 = .ok (.aload_n 2, 1) := by decide +kernel
theorem dL_law_286 : decode cL_law 286 = .ok (.invokevirtual 104, 3) := by decide +kernel
theorem dL_law_289 : decode cL_law 289 = .ok (.if_icmp .eq 1444, 3) := by decide +kernel
theorem dL_law_292 : decode cL_law 292 = .ok (.iconst 0, 1) := by decide +kernel
theorem dL_law_293 : decode cL_law 293 = .ok (.ireturn, 1) := by decide +kernel
theorem dL_law_294 : decode cL_law 294 = .ok (.aload_n 1, 1) := by decide +kernel
theorem dL_law_295 : decode cL_law 295 = .ok (.invokevirtual 105, 3) := by decide +kernel
theorem dL_law_298 : decode cL_law 298 = .ok (.aload_n 2, 1) := by decide +kernel
theorem dL_law_299 : decode cL_law 299 = .ok (.invokevirtual 108, 3) := by decide +kernel
theorem dL_law_302 : decode cL_law 302 = .ok (.if_icmp .eq 1431, 3) := by decide +kernel
theorem dL_law_305 : decode cL_law 305 = .ok (.iconst 0, 1) := by decide +kernel
theorem dL_law_306 : decode cL_law 306 = .ok (.ireturn, 1) := by decide +kernel
theorem dL_law_307 : decode cL_law 307 = .ok (.aload_n 1, 1) := by decide +kernel
theorem dL_law_308 : decode cL_law 308 = .ok (.invokevirtual 109, 3) := by decide +kernel
theorem dL_law_311 : decode cL_law 311 = .ok (.aload_n 2, 1) := by decide +kernel
theorem dL_law_312 : decode cL_law 312 = .ok (.invokevirtual 112, 3) := by decide +kernel
theorem dL_law_315 : decode cL_law 315 = .ok (.if_icmp .eq 1418, 3) := by decide +kernel
theorem dL_law_318 : decode cL_law 318 = .ok (.iconst 0, 1) := by decide +kernel
theorem dL_law_319 : decode cL_law 319 = .ok (.ireturn, 1) := by decide +kernel
theorem dL_law_320 : decode cL_law 320 = .ok (.aload_n 1, 1) := by decide +kernel
theorem dL_law_321 : decode cL_law 321 = .ok (.aload_n 0, 1) := by decide +kernel
theorem dL_law_322 : decode cL_law 322 = .ok (.iload 4, 2) := by decide +kernel
theorem dL_law_324 : decode cL_law 324 = .ok (.iconst 1, 1) := by decide +kernel
theorem dL_law_325 : decode cL_law 325 = .ok (.iadd, 1) := by decide +kernel
theorem dL_law_326 : decode cL_law 326 = .ok (.iaload, 1) := by decide +kernel
theorem dL_law_327 : decode cL_law 327 = .ok (.aload_n 3, 1) := by decide +kernel
theorem dL_law_328 : decode cL_law 328 = .ok (.invokestatic 113, 3) := by decide +kernel
theorem dL_law_331 : decode cL_law 331 = .ok (.istore 5, 2) := by decide +kernel
theorem dL_law_333 : decode cL_law 333 = .ok (.aload_n 2, 1) := by decide +kernel
theorem dL_law_334 : decode cL_law 334 = .ok (.aload_n 0, 1) := by decide +kernel
theorem dL_law_335 : decode cL_law 335 = .ok (.iload 4, 2) := by decide +kernel
theorem dL_law_337 : decode cL_law 337 = .ok (.iconst 1, 1) := by decide +kernel
theorem dL_law_338 : decode cL_law 338 = .ok (.iadd, 1) := by decide +kernel
theorem dL_law_339 : decode cL_law 339 = .ok (.iaload, 1) := by decide +kernel
theorem dL_law_340 : decode cL_law 340 = .ok (.invokevirtual 115, 3) := by decide +kernel
theorem dL_law_343 : decode cL_law 343 = .ok (.istore 6, 2) := by decide +kernel
theorem dL_law_345 : decode cL_law 345 = .ok (.aload_n 2, 1) := by decide +kernel
theorem dL_law_346 : decode cL_law 346 = .ok (.invokevirtual 98, 3) := by decide +kernel
theorem dL_law_349 : decode cL_law 349 = .ok (.iload 5, 2) := by decide +kernel
theorem dL_law_351 : decode cL_law 351 = .ok (.if_icmp .eq 5, 3) := by decide +kernel
theorem dL_law_354 : decode cL_law 354 = .ok (.iconst 0, 1) := by decide +kernel
theorem dL_law_355 : decode cL_law 355 = .ok (.ireturn, 1) := by decide +kernel
theorem dL_law_356 : decode cL_law 356 = .ok (.iload 5, 2) := by decide +kernel
theorem dL_law_358 : decode cL_law 358 = .ok (.ifCond .ne 15, 3) := by decide +kernel
theorem dL_law_361 : decode cL_law 361 = .ok (.aload_n 3, 1) := by decide +kernel
theorem dL_law_362 : decode cL_law 362 = .ok (.iconst 0, 1) := by decide +kernel
theorem dL_law_363 : decode cL_law 363 = .ok (.laload, 1) := by decide +kernel
theorem dL_law_364 : decode cL_law 364 = .ok (.iload 6, 2) := by decide +kernel
theorem dL_law_366 : decode cL_law 366 = .ok (.i2l, 1) := by decide +kernel
theorem dL_law_367 : decode cL_law 367 = .ok (.lcmp, 1) := by decide +kernel
theorem dL_law_368 : decode cL_law 368 = .ok (.ifCond .eq 5, 3) := by decide +kernel
theorem dL_law_371 : decode cL_law 371 = .ok (.iconst 0, 1) := by decide +kernel
theorem dL_law_372 : decode cL_law 372 = .ok (.ireturn, 1) := by decide +kernel
theorem dL_law_373 : decode cL_law 373 = .ok (.goto 1360, 3) := by decide +kernel
theorem dL_law_376 : decode cL_law 376 = .ok (.aload_n 1, 1) := by decide +kernel
theorem dL_law_377 : decode cL_law 377 = .ok (.aload_n 0, 1) := by decide +kernel
theorem dL_law_378 : decode cL_law 378 = .ok (.iload 4, 2) := by decide +kernel
theorem dL_law_380 : decode cL_law 380 = .ok (.iconst 1, 1) := by decide +kernel
theorem dL_law_381 : decode cL_law 381 = .ok (.iadd, 1) := by decide +kernel
theorem dL_law_382 : decode cL_law 382 = .ok (.iaload, 1) := by decide +kernel
theorem dL_law_383 : decode cL_law 383 = .ok (.aload_n 3, 1) := by decide +kernel
theorem dL_law_384 : decode cL_law 384 = .ok (.invokestatic 116, 3) := by decide +kernel
theorem dL_law_387 : decode cL_law 387 = .ok (.istore 5, 2) := by decide +kernel
theorem dL_law_389 : decode cL_law 389 = .ok (.aload_n 2, 1) := by decide +kernel
theorem dL_law_390 : decode cL_law 390 = .ok (.aload_n 0, 1) := by decide +kernel
theorem dL_law_391 : decode cL_law 391 = .ok (.iload 4, 2) := by decide +kernel
theorem dL_law_393 : decode cL_law 393 = .ok (.iconst 1, 1) := by decide +kernel
theorem dL_law_394 : decode cL_law 394 = .ok (.iadd, 1) := by decide +kernel
theorem dL_law_395 : decode cL_law 395 = .ok (.iaload, 1) := by decide +kernel
theorem dL_law_396 : decode cL_law 396 = .ok (.invokevirtual 118, 3) := by decide +kernel
theorem dL_law_399 : decode cL_law 399 = .ok (.istore 6, 2) := by decide +kernel
theorem dL_law_401 : decode cL_law 401 = .ok (.aload_n 2, 1) := by decide +kernel
theorem dL_law_402 : decode cL_law 402 = .ok (.invokevirtual 98, 3) := by decide +kernel
theorem dL_law_405 : decode cL_law 405 = .ok (.iload 5, 2) := by decide +kernel
theorem dL_law_407 : decode cL_law 407 = .ok (.if_icmp .eq 5, 3) := by decide +kernel
theorem dL_law_410 : decode cL_law 410 = .ok (.iconst 0, 1) := by decide +kernel
theorem dL_law_411 : decode cL_law 411 = .ok (.ireturn, 1) := by decide +kernel
theorem dL_law_412 : decode cL_law 412 = .ok (.iload 5, 2) := by decide +kernel
theorem dL_law_414 : decode cL_law 414 = .ok (.ifCond .ne 15, 3) := by decide +kernel
theorem dL_law_417 : decode cL_law 417 = .ok (.aload_n 3, 1) := by decide +kernel
theorem dL_law_418 : decode cL_law 418 = .ok (.iconst 0, 1) := by decide +kernel
theorem dL_law_419 : decode cL_law 419 = .ok (.laload, 1) := by decide +kernel
theorem dL_law_420 : decode cL_law 420 = .ok (.iload 6, 2) := by decide +kernel
theorem dL_law_422 : decode cL_law 422 = .ok (.i2l, 1) := by decide +kernel
theorem dL_law_423 : decode cL_law 423 = .ok (.lcmp, 1) := by decide +kernel
theorem dL_law_424 : decode cL_law 424 = .ok (.ifCond .eq 5, 3) := by decide +kernel
theorem dL_law_427 : decode cL_law 427 = .ok (.iconst 0, 1) := by decide +kernel
theorem dL_law_428 : decode cL_law 428 = .ok (.ireturn, 1) := by decide +kernel
theorem dL_law_429 : decode cL_law 429 = .ok (.goto 1304, 3) := by decide +kernel
theorem dL_law_432 : decode cL_law 432 = .ok (.aload_n 1, 1) := by decide +kernel
theorem dL_law_433 : decode cL_law 433 = .ok (.aload_n 0, 1) := by decide +kernel
theorem dL_law_434 : decode cL_law 434 = .ok (.iload 4, 2) := by decide +kernel
theorem dL_law_436 : decode cL_law 436 = .ok (.iconst 1, 1) := by decide +kernel
theorem dL_law_437 : decode cL_law 437 = .ok (.iadd, 1) := by decide +kernel
theorem dL_law_438 : decode cL_law 438 = .ok (.iaload, 1) := by decide +kernel
theorem dL_law_439 : decode cL_law 439 = .ok (.aload_n 3, 1) := by decide +kernel
theorem dL_law_440 : decode cL_law 440 = .ok (.invokestatic 119, 3) := by decide +kernel
theorem dL_law_443 : decode cL_law 443 = .ok (.istore 5, 2) := by decide +kernel
theorem dL_law_445 : decode cL_law 445 = .ok (.aload_n 2, 1) := by decide +kernel
theorem dL_law_446 : decode cL_law 446 = .ok (.aload_n 0, 1) := by decide +kernel
theorem dL_law_447 : decode cL_law 447 = .ok (.iload 4, 2) := by decide +kernel
theorem dL_law_449 : decode cL_law 449 = .ok (.iconst 1, 1) := by decide +kernel
theorem dL_law_450 : decode cL_law 450 = .ok (.iadd, 1) := by decide +kernel
theorem dL_law_451 : decode cL_law 451 = .ok (.iaload, 1) := by decide +kernel
theorem dL_law_452 : decode cL_law 452 = .ok (.invokevirtual 121, 3) := by decide +kernel
theorem dL_law_455 : decode cL_law 455 = .ok (.istore 6, 2) := by decide +kernel
theorem dL_law_457 : decode cL_law 457 = .ok (.aload_n 2, 1) := by decide +kernel
theorem dL_law_458 : decode cL_law 458 = .ok (.invokevirtual 98, 3) := by decide +kernel
theorem dL_law_461 : decode cL_law 461 = .ok (.iload 5, 2) := by decide +kernel
theorem dL_law_463 : decode cL_law 463 = .ok (.if_icmp .eq 5, 3) := by decide +kernel
theorem dL_law_466 : decode cL_law 466 = .ok (.iconst 0, 1) := by decide +kernel
theorem dL_law_467 : decode cL_law 467 = .ok (.ireturn, 1) := by decide +kernel
theorem dL_law_468 : decode cL_law 468 = .ok (.iload 5, 2) := by decide +kernel
theorem dL_law_470 : decode cL_law 470 = .ok (.ifCond .ne 22, 3) := by decide +kernel
theorem dL_law_473 : decode cL_law 473 = .ok (.aload_n 3, 1) := by decide +kernel
theorem dL_law_474 : decode cL_law 474 = .ok (.iconst 0, 1) := by decide +kernel
theorem dL_law_475 : decode cL_law 475 = .ok (.laload, 1) := by decide +kernel
theorem dL_law_476 : decode cL_law 476 = .ok (.iload 6, 2) := by decide +kernel
theorem dL_law_478 : decode cL_law 478 = .ok (.ifCond .eq 7, 3) := by decide +kernel
theorem dL_law_481 : decode cL_law 481 = .ok (.lconst 1, 1) := by decide +kernel
theorem dL_law_482 : decode cL_law 482 = .ok (.goto 4, 3) := by decide +kernel
theorem dL_law_485 : decode cL_law 485 = .ok (.lconst 0, 1) := by decide +kernel
theorem dL_law_486 : decode cL_law 486 = .ok (.lcmp, 1) := by decide +kernel
theorem dL_law_487 : decode cL_law 487 = .ok (.ifCond .eq 5, 3) := by decide +kernel
theorem dL_law_490 : decode cL_law 490 = .ok (.iconst 0, 1) := by decide +kernel
theorem dL_law_491 : decode cL_law 491 = .ok (.ireturn, 1) := by decide +kernel
theorem dL_law_492 : decode cL_law 492 = .ok (.goto 1241, 3) := by decide +kernel
theorem dL_law_495 : decode cL_law 495 = .ok (.aload_n 1, 1) := by decide +kernel
theorem dL_law_496 : decode cL_law 496 = .ok (.aload_n 0, 1) := by decide +kernel
theorem dL_law_497 : decode cL_law 497 = .ok (.iload 4, 2) := by decide +kernel
theorem dL_law_499 : decode cL_law 499 = .ok (.iconst 1, 1) := by decide +kernel
theorem dL_law_500 : decode cL_law 500 = .ok (.iadd, 1) := by decide +kernel
theorem dL_law_501 : decode cL_law 501 = .ok (.iaload, 1) := by decide +kernel
theorem dL_law_502 : decode cL_law 502 = .ok (.aload_n 3, 1) := by decide +kernel
theorem dL_law_503 : decode cL_law 503 = .ok (.invokestatic 122, 3) := by decide +kernel
theorem dL_law_506 : decode cL_law 506 = .ok (.istore 5, 2) := by decide +kernel
theorem dL_law_508 : decode cL_law 508 = .ok (.aload_n 2, 1) := by decide +kernel
theorem dL_law_509 : decode cL_law 509 = .ok (.aload_n 0, 1) := by decide +kernel
theorem dL_law_510 : decode cL_law 510 = .ok (.iload 4, 2) := by decide +kernel
theorem dL_law_512 : decode cL_law 512 = .ok (.iconst 1, 1) := by decide +kernel
theorem dL_law_513 : decode cL_law 513 = .ok (.iadd, 1) := by decide +kernel
theorem dL_law_514 : decode cL_law 514 = .ok (.iaload, 1) := by decide +kernel
theorem dL_law_515 : decode cL_law 515 = .ok (.invokevirtual 124, 3) := by decide +kernel
theorem dL_law_518 : decode cL_law 518 = .ok (.istore 6, 2) := by decide +kernel
theorem dL_law_520 : decode cL_law 520 = .ok (.aload_n 2, 1) := by decide +kernel
theorem dL_law_521 : decode cL_law 521 = .ok (.invokevirtual 98, 3) := by decide +kernel
theorem dL_law_524 : decode cL_law 524 = .ok (.iload 5, 2) := by decide +kernel
theorem dL_law_526 : decode cL_law 526 = .ok (.if_icmp .eq 5, 3) := by decide +kernel
theorem dL_law_529 : decode cL_law 529 = .ok (.iconst 0, 1) := by decide +kernel
theorem dL_law_530 : decode cL_law 530 = .ok (.ireturn, 1) := by decide +kernel
theorem dL_law_531 : decode cL_law 531 = .ok (.iload 5, 2) := by decide +kernel
theorem dL_law_533 : decode cL_law 533 = .ok (.ifCond .ne 15, 3) := by decide +kernel
theorem dL_law_536 : decode cL_law 536 = .ok (.aload_n 3, 1) := by decide +kernel
theorem dL_law_537 : decode cL_law 537 = .ok (.iconst 0, 1) := by decide +kernel
theorem dL_law_538 : decode cL_law 538 = .ok (.laload, 1) := by decide +kernel
theorem dL_law_539 : decode cL_law 539 = .ok (.iload 6, 2) := by decide +kernel
theorem dL_law_541 : decode cL_law 541 = .ok (.i2l, 1) := by decide +kernel
theorem dL_law_542 : decode cL_law 542 = .ok (.lcmp, 1) := by decide +kernel
theorem dL_law_543 : decode cL_law 543 = .ok (.ifCond .eq 5, 3) := by decide +kernel
theorem dL_law_546 : decode cL_law 546 = .ok (.iconst 0, 1) := by decide +kernel
theorem dL_law_547 : decode cL_law 547 = .ok (.ireturn, 1) := by decide +kernel
theorem dL_law_548 : decode cL_law 548 = .ok (.goto 1185, 3) := by decide +kernel
theorem dL_law_551 : decode cL_law 551 = .ok (.aload_n 1, 1) := by decide +kernel
theorem dL_law_552 : decode cL_law 552 = .ok (.aload_n 0, 1) := by decide +kernel
theorem dL_law_553 : decode cL_law 553 = .ok (.iload 4, 2) := by decide +kernel
theorem dL_law_555 : decode cL_law 555 = .ok (.iconst 1, 1) := by decide +kernel
theorem dL_law_556 : decode cL_law 556 = .ok (.iadd, 1) := by decide +kernel
theorem dL_law_557 : decode cL_law 557 = .ok (.iaload, 1) := by decide +kernel
theorem dL_law_558 : decode cL_law 558 = .ok (.aload_n 3, 1) := by decide +kernel
theorem dL_law_559 : decode cL_law 559 = .ok (.invokestatic 125, 3) := by decide +kernel
theorem dL_law_562 : decode cL_law 562 = .ok (.istore 5, 2) := by decide +kernel
theorem dL_law_564 : decode cL_law 564 = .ok (.aload_n 2, 1) := by decide +kernel
theorem dL_law_565 : decode cL_law 565 = .ok (.aload_n 0, 1) := by decide +kernel
theorem dL_law_566 : decode cL_law 566 = .ok (.iload 4, 2) := by decide +kernel
theorem dL_law_568 : decode cL_law 568 = .ok (.iconst 1, 1) := by decide +kernel
theorem dL_law_569 : decode cL_law 569 = .ok (.iadd, 1) := by decide +kernel
theorem dL_law_570 : decode cL_law 570 = .ok (.iaload, 1) := by decide +kernel
theorem dL_law_571 : decode cL_law 571 = .ok (.invokevirtual 127, 3) := by decide +kernel
theorem dL_law_574 : decode cL_law 574 = .ok (.istore 6, 2) := by decide +kernel
theorem dL_law_576 : decode cL_law 576 = .ok (.aload_n 2, 1) := by decide +kernel
theorem dL_law_577 : decode cL_law 577 = .ok (.invokevirtual 98, 3) := by decide +kernel
theorem dL_law_580 : decode cL_law 580 = .ok (.iload 5, 2) := by decide +kernel
theorem dL_law_582 : decode cL_law 582 = .ok (.if_icmp .eq 5, 3) := by decide +kernel
theorem dL_law_585 : decode cL_law 585 = .ok (.iconst 0, 1) := by decide +kernel
theorem dL_law_586 : decode cL_law 586 = .ok (.ireturn, 1) := by decide +kernel
theorem dL_law_587 : decode cL_law 587 = .ok (.iload 5, 2) := by decide +kernel
theorem dL_law_589 : decode cL_law 589 = .ok (.ifCond .ne 15, 3) := by decide +kernel
theorem dL_law_592 : decode cL_law 592 = .ok (.aload_n 3, 1) := by decide +kernel
theorem dL_law_593 : decode cL_law 593 = .ok (.iconst 0, 1) := by decide +kernel
theorem dL_law_594 : decode cL_law 594 = .ok (.laload, 1) := by decide +kernel
theorem dL_law_595 : decode cL_law 595 = .ok (.iload 6, 2) := by decide +kernel
theorem dL_law_597 : decode cL_law 597 = .ok (.i2l, 1) := by decide +kernel
theorem dL_law_598 : decode cL_law 598 = .ok (.lcmp, 1) := by decide +kernel
theorem dL_law_599 : decode cL_law 599 = .ok (.ifCond .eq 5, 3) := by decide +kernel
theorem dL_law_602 : decode cL_law 602 = .ok (.iconst 0, 1) := by decide +kernel
theorem dL_law_603 : decode cL_law 603 = .ok (.ireturn, 1) := by decide +kernel
theorem dL_law_604 : decode cL_law 604 = .ok (.goto 1129, 3) := by decide +kernel
theorem dL_law_607 : decode cL_law 607 = .ok (.aload_n 1, 1) := by decide +kernel
theorem dL_law_608 : decode cL_law 608 = .ok (.aload_n 0, 1) := by decide +kernel
theorem dL_law_609 : decode cL_law 609 = .ok (.iload 4, 2) := by decide +kernel
theorem dL_law_611 : decode cL_law 611 = .ok (.iconst 1, 1) := by decide +kernel
theorem dL_law_612 : decode cL_law 612 = .ok (.iadd, 1) := by decide +kernel
theorem dL_law_613 : decode cL_law 613 = .ok (.iaload, 1) := by decide +kernel
theorem dL_law_614 : decode cL_law 614 = .ok (.aload_n 3, 1) := by decide +kernel
theorem dL_law_615 : decode cL_law 615 = .ok (.invokestatic 128, 3) := by decide +kernel
theorem dL_law_618 : decode cL_law 618 = .ok (.istore 5, 2) := by decide +kernel
theorem dL_law_620 : decode cL_law 620 = .ok (.aload_n 2, 1) := by decide +kernel
theorem dL_law_621 : decode cL_law 621 = .ok (.aload_n 0, 1) := by decide +kernel
theorem dL_law_622 : decode cL_law 622 = .ok (.iload 4, 2) := by decide +kernel
theorem dL_law_624 : decode cL_law 624 = .ok (.iconst 1, 1) := by decide +kernel
theorem dL_law_625 : decode cL_law 625 = .ok (.iadd, 1) := by decide +kernel
theorem dL_law_626 : decode cL_law 626 = .ok (.iaload, 1) := by decide +kernel
theorem dL_law_627 : decode cL_law 627 = .ok (.invokevirtual 130, 3) := by decide +kernel
theorem dL_law_630 : decode cL_law 630 = .ok (.istore 6, 2) := by decide +kernel
theorem dL_law_632 : decode cL_law 632 = .ok (.aload_n 2, 1) := by decide +kernel
theorem dL_law_633 : decode cL_law 633 = .ok (.invokevirtual 98, 3) := by decide +kernel
theorem dL_law_636 : decode cL_law 636 = .ok (.iload 5, 2) := by decide +kernel
theorem dL_law_638 : decode cL_law 638 = .ok (.if_icmp .eq 5, 3) := by decide +kernel
theorem dL_law_641 : decode cL_law 641 = .ok (.iconst 0, 1) := by decide +kernel
theorem dL_law_642 : decode cL_law 642 = .ok (.ireturn, 1) := by decide +kernel
theorem dL_law_643 : decode cL_law 643 = .ok (.iload 5, 2) := by decide +kernel
theorem dL_law_645 : decode cL_law 645 = .ok (.ifCond .ne 22, 3) := by decide +kernel
theorem dL_law_648 : decode cL_law 648 = .ok (.aload_n 3, 1) := by decide +kernel
theorem dL_law_649 : decode cL_law 649 = .ok (.iconst 0, 1) := by decide +kernel
theorem dL_law_650 : decode cL_law 650 = .ok (.laload, 1) := by decide +kernel
theorem dL_law_651 : decode cL_law 651 = .ok (.iload 6, 2) := by decide +kernel
theorem dL_law_653 : decode cL_law 653 = .ok (.ifCond .eq 7, 3) := by decide +kernel
theorem dL_law_656 : decode cL_law 656 = .ok (.lconst 1, 1) := by decide +kernel
theorem dL_law_657 : decode cL_law 657 = .ok (.goto 4, 3) := by decide +kernel
theorem dL_law_660 : decode cL_law 660 = .ok (.lconst 0, 1) := by decide +kernel
theorem dL_law_661 : decode cL_law 661 = .ok (.lcmp, 1) := by decide +kernel
theorem dL_law_662 : decode cL_law 662 = .ok (.ifCond .eq 5, 3) := by decide +kernel
theorem dL_law_665 : decode cL_law 665 = .ok (.iconst 0, 1) := by decide +kernel
theorem dL_law_666 : decode cL_law 666 = .ok (.ireturn, 1) := by decide +kernel
theorem dL_law_667 : decode cL_law 667 = .ok (.goto 1066, 3) := by decide +kernel
theorem dL_law_670 : decode cL_law 670 = .ok (.aload_n 1, 1) := by decide +kernel
theorem dL_law_671 : decode cL_law 671 = .ok (.aload_n 0, 1) := by decide +kernel
theorem dL_law_672 : decode cL_law 672 = .ok (.iload 4, 2) := by decide +kernel
theorem dL_law_674 : decode cL_law 674 = .ok (.iconst 1, 1) := by decide +kernel
theorem dL_law_675 : decode cL_law 675 = .ok (.iadd, 1) := by decide +kernel
theorem dL_law_676 : decode cL_law 676 = .ok (.iaload, 1) := by decide +kernel
theorem dL_law_677 : decode cL_law 677 = .ok (.aload_n 3, 1) := by decide +kernel
theorem dL_law_678 : decode cL_law 678 = .ok (.invokestatic 131, 3) := by decide +kernel
theorem dL_law_681 : decode cL_law 681 = .ok (.istore 5, 2) := by decide +kernel
theorem dL_law_683 : decode cL_law 683 = .ok (.aload_n 2, 1) := by decide +kernel
theorem dL_law_684 : decode cL_law 684 = .ok (.aload_n 0, 1) := by decide +kernel
theorem dL_law_685 : decode cL_law 685 = .ok (.iload 4, 2) := by decide +kernel
theorem dL_law_687 : decode cL_law 687 = .ok (.iconst 1, 1) := by decide +kernel
theorem dL_law_688 : decode cL_law 688 = .ok (.iadd, 1) := by decide +kernel
theorem dL_law_689 : decode cL_law 689 = .ok (.iaload, 1) := by decide +kernel
theorem dL_law_690 : decode cL_law 690 = .ok (.invokevirtual 133, 3) := by decide +kernel
theorem dL_law_693 : decode cL_law 693 = .ok (.istore 6, 2) := by decide +kernel
theorem dL_law_695 : decode cL_law 695 = .ok (.aload_n 2, 1) := by decide +kernel
theorem dL_law_696 : decode cL_law 696 = .ok (.invokevirtual 98, 3) := by decide +kernel
theorem dL_law_699 : decode cL_law 699 = .ok (.iload 5, 2) := by decide +kernel
theorem dL_law_701 : decode cL_law 701 = .ok (.if_icmp .eq 5, 3) := by decide +kernel
theorem dL_law_704 : decode cL_law 704 = .ok (.iconst 0, 1) := by decide +kernel
theorem dL_law_705 : decode cL_law 705 = .ok (.ireturn, 1) := by decide +kernel
theorem dL_law_706 : decode cL_law 706 = .ok (.iload 5, 2) := by decide +kernel
theorem dL_law_708 : decode cL_law 708 = .ok (.ifCond .ne 15, 3) := by decide +kernel
theorem dL_law_711 : decode cL_law 711 = .ok (.aload_n 3, 1) := by decide +kernel
theorem dL_law_712 : decode cL_law 712 = .ok (.iconst 0, 1) := by decide +kernel
theorem dL_law_713 : decode cL_law 713 = .ok (.laload, 1) := by decide +kernel
theorem dL_law_714 : decode cL_law 714 = .ok (.iload 6, 2) := by decide +kernel
theorem dL_law_716 : decode cL_law 716 = .ok (.i2l, 1) := by decide +kernel
theorem dL_law_717 : decode cL_law 717 = .ok (.lcmp, 1) := by decide +kernel
theorem dL_law_718 : decode cL_law 718 = .ok (.ifCond .eq 5, 3) := by decide +kernel
theorem dL_law_721 : decode cL_law 721 = .ok (.iconst 0, 1) := by decide +kernel
theorem dL_law_722 : decode cL_law 722 = .ok (.ireturn, 1) := by decide +kernel
theorem dL_law_723 : decode cL_law 723 = .ok (.goto 1010, 3) := by decide +kernel
theorem dL_law_726 : decode cL_law 726 = .ok (.aload_n 1, 1) := by decide +kernel
theorem dL_law_727 : decode cL_law 727 = .ok (.aload_n 0, 1) := by decide +kernel
theorem dL_law_728 : decode cL_law 728 = .ok (.iload 4, 2) := by decide +kernel
theorem dL_law_730 : decode cL_law 730 = .ok (.iconst 1, 1) := by decide +kernel
theorem dL_law_731 : decode cL_law 731 = .ok (.iadd, 1) := by decide +kernel
theorem dL_law_732 : decode cL_law 732 = .ok (.iaload, 1) := by decide +kernel
theorem dL_law_733 : decode cL_law 733 = .ok (.aload_n 0, 1) := by decide +kernel
theorem dL_law_734 : decode cL_law 734 = .ok (.iload 4, 2) := by decide +kernel
theorem dL_law_736 : decode cL_law 736 = .ok (.iconst 2, 1) := by decide +kernel
theorem dL_law_737 : decode cL_law 737 = .ok (.iadd, 1) := by decide +kernel
theorem dL_law_738 : decode cL_law 738 = .ok (.iaload, 1) := by decide +kernel
theorem dL_law_739 : decode cL_law 739 = .ok (.aload_n 3, 1) := by decide +kernel
theorem dL_law_740 : decode cL_law 740 = .ok (.invokestatic 134, 3) := by decide +kernel
theorem dL_law_743 : decode cL_law 743 = .ok (.istore 5, 2) := by decide +kernel
theorem dL_law_745 : decode cL_law 745 = .ok (.aload_n 2, 1) := by decide +kernel
theorem dL_law_746 : decode cL_law 746 = .ok (.aload_n 0, 1) := by decide +kernel
theorem dL_law_747 : decode cL_law 747 = .ok (.iload 4, 2) := by decide +kernel
theorem dL_law_749 : decode cL_law 749 = .ok (.iconst 1, 1) := by decide +kernel
theorem dL_law_750 : decode cL_law 750 = .ok (.iadd, 1) := by decide +kernel
theorem dL_law_751 : decode cL_law 751 = .ok (.iaload, 1) := by decide +kernel
theorem dL_law_752 : decode cL_law 752 = .ok (.aload_n 0, 1) := by decide +kernel
theorem dL_law_753 : decode cL_law 753 = .ok (.iload 4, 2) := by decide +kernel
theorem dL_law_755 : decode cL_law 755 = .ok (.iconst 2, 1) := by decide +kernel
theorem dL_law_756 : decode cL_law 756 = .ok (.iadd, 1) := by decide +kernel
theorem dL_law_757 : decode cL_law 757 = .ok (.iaload, 1) := by decide +kernel
theorem dL_law_758 : decode cL_law 758 = .ok (.invokevirtual 137, 3) := by decide +kernel
theorem dL_law_761 : decode cL_law 761 = .ok (.istore 6, 2) := by decide +kernel
theorem dL_law_763 : decode cL_law 763 = .ok (.aload_n 2, 1) := by decide +kernel
theorem dL_law_764 : decode cL_law 764 = .ok (.invokevirtual 98, 3) := by decide +kernel
theorem dL_law_767 : decode cL_law 767 = .ok (.iload 5, 2) := by decide +kernel
theorem dL_law_769 : decode cL_law 769 = .ok (.if_icmp .eq 5, 3) := by decide +kernel
theorem dL_law_772 : decode cL_law 772 = .ok (.iconst 0, 1) := by decide +kernel
theorem dL_law_773 : decode cL_law 773 = .ok (.ireturn, 1) := by decide +kernel
theorem dL_law_774 : decode cL_law 774 = .ok (.iload 5, 2) := by decide +kernel
theorem dL_law_776 : decode cL_law 776 = .ok (.ifCond .ne 15, 3) := by decide +kernel
theorem dL_law_779 : decode cL_law 779 = .ok (.aload_n 3, 1) := by decide +kernel
theorem dL_law_780 : decode cL_law 780 = .ok (.iconst 0, 1) := by decide +kernel
theorem dL_law_781 : decode cL_law 781 = .ok (.laload, 1) := by decide +kernel
theorem dL_law_782 : decode cL_law 782 = .ok (.iload 6, 2) := by decide +kernel
theorem dL_law_784 : decode cL_law 784 = .ok (.i2l, 1) := by decide +kernel
theorem dL_law_785 : decode cL_law 785 = .ok (.lcmp, 1) := by decide +kernel
theorem dL_law_786 : decode cL_law 786 = .ok (.ifCond .eq 5, 3) := by decide +kernel
theorem dL_law_789 : decode cL_law 789 = .ok (.iconst 0, 1) := by decide +kernel
theorem dL_law_790 : decode cL_law 790 = .ok (.ireturn, 1) := by decide +kernel
theorem dL_law_791 : decode cL_law 791 = .ok (.goto 942, 3) := by decide +kernel
theorem dL_law_794 : decode cL_law 794 = .ok (.aload_n 1, 1) := by decide +kernel
theorem dL_law_795 : decode cL_law 795 = .ok (.aload_n 0, 1) := by decide +kernel
theorem dL_law_796 : decode cL_law 796 = .ok (.iload 4, 2) := by decide +kernel
theorem dL_law_798 : decode cL_law 798 = .ok (.iconst 1, 1) := by decide +kernel
theorem dL_law_799 : decode cL_law 799 = .ok (.iadd, 1) := by decide +kernel
theorem dL_law_800 : decode cL_law 800 = .ok (.iaload, 1) := by decide +kernel
theorem dL_law_801 : decode cL_law 801 = .ok (.aload_n 3, 1) := by decide +kernel
theorem dL_law_802 : decode cL_law 802 = .ok (.invokestatic 138, 3) := by decide +kernel
theorem dL_law_805 : decode cL_law 805 = .ok (.istore 5, 2) := by decide +kernel
theorem dL_law_807 : decode cL_law 807 = .ok (.aload_n 2, 1) := by decide +kernel
theorem dL_law_808 : decode cL_law 808 = .ok (.aload_n 0, 1) := by decide +kernel
theorem dL_law_809 : decode cL_law 809 = .ok (.iload 4, 2) := by decide +kernel
theorem dL_law_811 : decode cL_law 811 = .ok (.iconst 1, 1) := by decide +kernel
theorem dL_law_812 : decode cL_law 812 = .ok (.iadd, 1) := by decide +kernel
theorem dL_law_813 : decode cL_law 813 = .ok (.iaload, 1) := by decide +kernel
theorem dL_law_814 : decode cL_law 814 = .ok (.invokevirtual 140, 3) := by decide +kernel
theorem dL_law_817 : decode cL_law 817 = .ok (.istore 6, 2) := by decide +kernel
theorem dL_law_819 : decode cL_law 819 = .ok (.aload_n 2, 1) := by decide +kernel
theorem dL_law_820 : decode cL_law 820 = .ok (.invokevirtual 98, 3) := by decide +kernel
theorem dL_law_823 : decode cL_law 823 = .ok (.iload 5, 2) := by decide +kernel
theorem dL_law_825 : decode cL_law 825 = .ok (.if_icmp .eq 5, 3) := by decide +kernel
theorem dL_law_828 : decode cL_law 828 = .ok (.iconst 0, 1) := by decide +kernel
theorem dL_law_829 : decode cL_law 829 = .ok (.ireturn, 1) := by decide +kernel
theorem dL_law_830 : decode cL_law 830 = .ok (.iload 5, 2) := by decide +kernel
theorem dL_law_832 : decode cL_law 832 = .ok (.ifCond .ne 15, 3) := by decide +kernel
theorem dL_law_835 : decode cL_law 835 = .ok (.aload_n 3, 1) := by decide +kernel
theorem dL_law_836 : decode cL_law 836 = .ok (.iconst 0, 1) := by decide +kernel
theorem dL_law_837 : decode cL_law 837 = .ok (.laload, 1) := by decide +kernel
theorem dL_law_838 : decode cL_law 838 = .ok (.iload 6, 2) := by decide +kernel
theorem dL_law_840 : decode cL_law 840 = .ok (.i2l, 1) := by decide +kernel
theorem dL_law_841 : decode cL_law 841 = .ok (.lcmp, 1) := by decide +kernel
theorem dL_law_842 : decode cL_law 842 = .ok (.ifCond .eq 5, 3) := by decide +kernel
theorem dL_law_845 : decode cL_law 845 = .ok (.iconst 0, 1) := by decide +kernel
theorem dL_law_846 : decode cL_law 846 = .ok (.ireturn, 1) := by decide +kernel
theorem dL_law_847 : decode cL_law 847 = .ok (.goto 886, 3) := by decide +kernel
theorem dL_law_850 : decode cL_law 850 = .ok (.aload_n 1, 1) := by decide +kernel
theorem dL_law_851 : decode cL_law 851 = .ok (.invokevirtual 141, 3) := by decide +kernel
theorem dL_law_854 : decode cL_law 854 = .ok (.aload_n 2, 1) := by decide +kernel
theorem dL_law_855 : decode cL_law 855 = .ok (.invokevirtual 144, 3) := by decide +kernel
theorem dL_law_858 : decode cL_law 858 = .ok (.if_icmp .eq 875, 3) := by decide +kernel
theorem dL_law_861 : decode cL_law 861 = .ok (.iconst 0, 1) := by decide +kernel
theorem dL_law_862 : decode cL_law 862 = .ok (.ireturn, 1) := by decide +kernel
theorem dL_law_863 : decode cL_law 863 = .ok (.aload_n 1, 1) := by decide +kernel
theorem dL_law_864 : decode cL_law 864 = .ok (.aload_n 0, 1) := by decide +kernel
theorem dL_law_865 : decode cL_law 865 = .ok (.iload 4, 2) := by decide +kernel
theorem dL_law_867 : decode cL_law 867 = .ok (.iconst 1, 1) := by decide +kernel
theorem dL_law_868 : decode cL_law 868 = .ok (.iadd, 1) := by decide +kernel
theorem dL_law_869 : decode cL_law 869 = .ok (.iaload, 1) := by decide +kernel
theorem dL_law_870 : decode cL_law 870 = .ok (.aload_n 0, 1) := by decide +kernel
theorem dL_law_871 : decode cL_law 871 = .ok (.iload 4, 2) := by decide +kernel
theorem dL_law_873 : decode cL_law 873 = .ok (.iconst 2, 1) := by decide +kernel
theorem dL_law_874 : decode cL_law 874 = .ok (.iadd, 1) := by decide +kernel
theorem dL_law_875 : decode cL_law 875 = .ok (.iaload, 1) := by decide +kernel
theorem dL_law_876 : decode cL_law 876 = .ok (.aload_n 0, 1) := by decide +kernel
theorem dL_law_877 : decode cL_law 877 = .ok (.iload 4, 2) := by decide +kernel
theorem dL_law_879 : decode cL_law 879 = .ok (.iconst 3, 1) := by decide +kernel
theorem dL_law_880 : decode cL_law 880 = .ok (.iadd, 1) := by decide +kernel
theorem dL_law_881 : decode cL_law 881 = .ok (.iaload, 1) := by decide +kernel
theorem dL_law_882 : decode cL_law 882 = .ok (.ifCond .eq 7, 3) := by decide +kernel
theorem dL_law_885 : decode cL_law 885 = .ok (.iconst 1, 1) := by decide +kernel
theorem dL_law_886 : decode cL_law 886 = .ok (.goto 4, 3) := by decide +kernel
theorem dL_law_889 : decode cL_law 889 = .ok (.iconst 0, 1) := by decide +kernel
theorem dL_law_890 : decode cL_law 890 = .ok (.aload_n 3, 1) := by decide +kernel
theorem dL_law_891 : decode cL_law 891 = .ok (.invokestatic 145, 3) := by decide +kernel
theorem dL_law_894 : decode cL_law 894 = .ok (.istore 5, 2) := by decide +kernel
theorem dL_law_896 : decode cL_law 896 = .ok (.aload_n 2, 1) := by decide +kernel
theorem dL_law_897 : decode cL_law 897 = .ok (.aload_n 0, 1) := by decide +kernel
theorem dL_law_898 : decode cL_law 898 = .ok (.iload 4, 2) := by decide +kernel
theorem dL_law_900 : decode cL_law 900 = .ok (.iconst 1, 1) := by decide +kernel
theorem dL_law_901 : decode cL_law 901 = .ok (.iadd, 1) := by decide +kernel
theorem dL_law_902 : decode cL_law 902 = .ok (.iaload, 1) := by decide +kernel
theorem dL_law_903 : decode cL_law 903 = .ok (.aload_n 0, 1) := by decide +kernel
theorem dL_law_904 : decode cL_law 904 = .ok (.iload 4, 2) := by decide +kernel
theorem dL_law_906 : decode cL_law 906 = .ok (.iconst 2, 1) := by decide +kernel
theorem dL_law_907 : decode cL_law 907 = .ok (.iadd, 1) := by decide +kernel
theorem dL_law_908 : decode cL_law 908 = .ok (.iaload, 1) := by decide +kernel
theorem dL_law_909 : decode cL_law 909 = .ok (.aload_n 0, 1) := by decide +kernel
theorem dL_law_910 : decode cL_law 910 = .ok (.iload 4, 2) := by decide +kernel
theorem dL_law_912 : decode cL_law 912 = .ok (.iconst 3, 1) := by decide +kernel
theorem dL_law_913 : decode cL_law 913 = .ok (.iadd, 1) := by decide +kernel
theorem dL_law_914 : decode cL_law 914 = .ok (.iaload, 1) := by decide +kernel
theorem dL_law_915 : decode cL_law 915 = .ok (.ifCond .eq 7, 3) := by decide +kernel
theorem dL_law_918 : decode cL_law 918 = .ok (.iconst 1, 1) := by decide +kernel
theorem dL_law_919 : decode cL_law 919 = .ok (.goto 4, 3) := by decide +kernel
theorem dL_law_922 : decode cL_law 922 = .ok (.iconst 0, 1) := by decide +kernel
theorem dL_law_923 : decode cL_law 923 = .ok (.invokevirtual 148, 3) := by decide +kernel
theorem dL_law_926 : decode cL_law 926 = .ok (.istore 6, 2) := by decide +kernel
theorem dL_law_928 : decode cL_law 928 = .ok (.aload_n 2, 1) := by decide +kernel
theorem dL_law_929 : decode cL_law 929 = .ok (.invokevirtual 98, 3) := by decide +kernel
theorem dL_law_932 : decode cL_law 932 = .ok (.iload 5, 2) := by decide +kernel
theorem dL_law_934 : decode cL_law 934 = .ok (.if_icmp .eq 5, 3) := by decide +kernel
theorem dL_law_937 : decode cL_law 937 = .ok (.iconst 0, 1) := by decide +kernel
theorem dL_law_938 : decode cL_law 938 = .ok (.ireturn, 1) := by decide +kernel
theorem dL_law_939 : decode cL_law 939 = .ok (.iload 5, 2) := by decide +kernel
theorem dL_law_941 : decode cL_law 941 = .ok (.ifCond .ne 15, 3) := by decide +kernel
theorem dL_law_944 : decode cL_law 944 = .ok (.aload_n 3, 1) := by decide +kernel
theorem dL_law_945 : decode cL_law 945 = .ok (.iconst 0, 1) := by decide +kernel
theorem dL_law_946 : decode cL_law 946 = .ok (.laload, 1) := by decide +kernel
theorem dL_law_947 : decode cL_law 947 = .ok (.iload 6, 2) := by decide +kernel
theorem dL_law_949 : decode cL_law 949 = .ok (.i2l, 1) := by decide +kernel
theorem dL_law_950 : decode cL_law 950 = .ok (.lcmp, 1) := by decide +kernel
theorem dL_law_951 : decode cL_law 951 = .ok (.ifCond .eq 5, 3) := by decide +kernel
theorem dL_law_954 : decode cL_law 954 = .ok (.iconst 0, 1) := by decide +kernel
theorem dL_law_955 : decode cL_law 955 = .ok (.ireturn, 1) := by decide +kernel
theorem dL_law_956 : decode cL_law 956 = .ok (.goto 777, 3) := by decide +kernel
theorem dL_law_959 : decode cL_law 959 = .ok (.aload_n 1, 1) := by decide +kernel
theorem dL_law_960 : decode cL_law 960 = .ok (.invokevirtual 149, 3) := by decide +kernel
theorem dL_law_963 : decode cL_law 963 = .ok (.aload_n 2, 1) := by decide +kernel
theorem dL_law_964 : decode cL_law 964 = .ok (.invokevirtual 152, 3) := by decide +kernel
theorem dL_law_967 : decode cL_law 967 = .ok (.if_icmp .eq 766, 3) := by decide +kernel
theorem dL_law_970 : decode cL_law 970 = .ok (.iconst 0, 1) := by decide +kernel
theorem dL_law_971 : decode cL_law 971 = .ok (.ireturn, 1) := by decide +kernel
theorem dL_law_972 : decode cL_law 972 = .ok (.aload_n 1, 1) := by decide +kernel
theorem dL_law_973 : decode cL_law 973 = .ok (.aload_n 0, 1) := by decide +kernel
theorem dL_law_974 : decode cL_law 974 = .ok (.iload 4, 2) := by decide +kernel
theorem dL_law_976 : decode cL_law 976 = .ok (.iconst 1, 1) := by decide +kernel
theorem dL_law_977 : decode cL_law 977 = .ok (.iadd, 1) := by decide +kernel
theorem dL_law_978 : decode cL_law 978 = .ok (.iaload, 1) := by decide +kernel
theorem dL_law_979 : decode cL_law 979 = .ok (.aload_n 3, 1) := by decide +kernel
theorem dL_law_980 : decode cL_law 980 = .ok (.invokestatic 153, 3) := by decide +kernel
theorem dL_law_983 : decode cL_law 983 = .ok (.istore 5, 2) := by decide +kernel
theorem dL_law_985 : decode cL_law 985 = .ok (.aload_n 2, 1) := by decide +kernel
theorem dL_law_986 : decode cL_law 986 = .ok (.aload_n 0, 1) := by decide +kernel
theorem dL_law_987 : decode cL_law 987 = .ok (.iload 4, 2) := by decide +kernel
theorem dL_law_989 : decode cL_law 989 = .ok (.iconst 1, 1) := by decide +kernel
theorem dL_law_990 : decode cL_law 990 = .ok (.iadd, 1) := by decide +kernel
theorem dL_law_991 : decode cL_law 991 = .ok (.iaload, 1) := by decide +kernel
theorem dL_law_992 : decode cL_law 992 = .ok (.invokevirtual 155, 3) := by decide +kernel
theorem dL_law_995 : decode cL_law 995 = .ok (.istore 6, 2) := by decide +kernel
theorem dL_law_997 : decode cL_law 997 = .ok (.aload_n 2, 1) := by decide +kernel
theorem dL_law_998 : decode cL_law 998 = .ok (.invokevirtual 98, 3) := by decide +kernel
theorem dL_law_1001 : decode cL_law 1001 = .ok (.iload 5, 2) := by decide +kernel
theorem dL_law_1003 : decode cL_law 1003 = .ok (.if_icmp .eq 5, 3) := by decide +kernel
theorem dL_law_1006 : decode cL_law 1006 = .ok (.iconst 0, 1) := by decide +kernel
theorem dL_law_1007 : decode cL_law 1007 = .ok (.ireturn, 1) := by decide +kernel
