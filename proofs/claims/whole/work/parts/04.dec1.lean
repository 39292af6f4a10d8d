theorem dX4_lower_28 : decode cX4_lower 28 = .ok (.invokevirtual 56, 3) := by decide +kernel
theorem dX4_lower_31 : decode cX4_lower 31 = .ok (.iload_n 2, 1) := by decide +kernel
theorem dX4_lower_32 : decode cX4_lower 32 = .ok (.if_icmp .le 56, 3) := by decide +kernel
theorem dX4_lower_35 : decode cX4_lower 35 = .ok (.iload_n 1, 1) := by decide +kernel
theorem dX4_lower_36 : decode cX4_lower 36 = .ok (.ifCond .le 34, 3) := by decide +kernel
theorem dX4_lower_39 : decode cX4_lower 39 = .ok (.aload_n 0, 1) := by decide +kernel
theorem dX4_lower_40 : decode cX4_lower 40 = .ok (.iload_n 1, 1) := by decide +kernel
theorem dX4_lower_41 : decode cX4_lower 41 = .ok (.iconst 1, 1) := by decide +kernel
theorem dX4_lower_42 : decode cX4_lower 42 = .ok (.isub, 1) := by decide +kernel
theorem dX4_lower_43 : decode cX4_lower 43 = .ok (.invokevirtual 56, 3) := by decide +kernel
theorem dX4_lower_46 : decode cX4_lower 46 = .ok (.aload_n 0, 1) := by decide +kernel
theorem dX4_lower_47 : decode cX4_lower 47 = .ok (.iload_n 1, 1) := by decide +kernel
theorem dX4_lower_48 : decode cX4_lower 48 = .ok (.iconst 1, 1) := by decide +kernel
theorem dX4_lower_49 : decode cX4_lower 49 = .ok (.isub, 1) := by decide +kernel
theorem dX4_lower_50 : decode cX4_lower 50 = .ok (.invokevirtual 70, 3) := by decide +kernel
theorem dX4_lower_53 : decode cX4_lower 53 = .ok (.if_icmp .lt 17, 3) := by decide +kernel
theorem dX4_lower_56 : decode cX4_lower 56 = .ok (.aload_n 0, 1) := by decide +kernel
theorem dX4_lower_57 : decode cX4_lower 57 = .ok (.iload_n 1, 1) := by decide +kernel
theorem dX4_lower_58 : decode cX4_lower 58 = .ok (.iconst 1, 1) := by decide +kernel
theorem dX4_lower_59 : decode cX4_lower 59 = .ok (.isub, 1) := by decide +kernel
theorem dX4_lower_60 : decode cX4_lower 60 = .ok (.aload_n 0, 1) := by decide +kernel
theorem dX4_lower_61 : decode cX4_lower 61 = .ok (.iload_n 1, 1) := by decide +kernel
theorem dX4_lower_62 : decode cX4_lower 62 = .ok (.iconst 1, 1) := by decide +kernel
theorem dX4_lower_63 : decode cX4_lower 63 = .ok (.isub, 1) := by decide +kernel
theorem dX4_lower_64 : decode cX4_lower 64 = .ok (.invokevirtual 67, 3) := by decide +kernel
theorem dX4_lower_67 : decode cX4_lower 67 = .ok (.invokestatic 80, 3) := by decide +kernel
theorem dX4_lower_70 : decode cX4_lower 70 = .ok (.aload_n 0, 1) := by decide +kernel
theorem dX4_lower_71 : decode cX4_lower 71 = .ok (.iload_n 1, 1) := by decide +kernel
theorem dX4_lower_72 : decode cX4_lower 72 = .ok (.aload_n 0, 1) := by decide +kernel
theorem dX4_lower_73 : decode cX4_lower 73 = .ok (.iload_n 1, 1) := by decide +kernel
theorem dX4_lower_74 : decode cX4_lower 74 = .ok (.invokevirtual 56, 3) := by decide +kernel
theorem dX4_lower_77 : decode cX4_lower 77 = .ok (.iload_n 2, 1) := by decide +kernel
theorem dX4_lower_78 : decode cX4_lower 78 = .ok (.isub, 1) := by decide +kernel
theorem dX4_lower_79 : decode cX4_lower 79 = .ok (.invokevirtual 92, 3) := by decide +kernel
theorem dX4_lower_82 : decode cX4_lower 82 = .ok (.iinc 3 1, 3) := by decide +kernel
theorem dX4_lower_85 : decode cX4_lower 85 = .ok (.goto (-65), 3) := by decide +kernel
theorem dX4_lower_88 : decode cX4_lower 88 = .ok (.return_, 1) := by decide +kernel
set_option maxRecDepth 20000 in
theorem ggX4_raise_X4_levelAt : GoodIn wsX4_raise wsX4_levelAt := goodIn_r _ [6, 1, 7, 8, 9, 10, 11, 12, 13, 43, 44, 45, 46, 47, 48, 49, 50] (by decide +kernel) (by decide +kernel)
set_option maxRecDepth 20000 in
theorem gX4_raise_X4_levelAt : GoodIn wsX4_raise (wsV RX4 56 RX4 yX4_levelAt wsX4_levelAt) := goodIn_app (goodIn_of _ (by decide +kernel)) ggX4_raise_X4_levelAt
set_option maxRecDepth 20000 in
theorem ggX4_raise_X4_floorOf : GoodIn wsX4_raise wsX4_floorOf := goodIn_r _ [17, 18, 43, 44, 45, 46, 47, 48, 49, 50] (by decide +kernel) (by decide +kernel)
set_option maxRecDepth 20000 in
theorem gX4_raise_X4_floorOf : GoodIn wsX4_raise (wsV RX4 67 RX4 yX4_floorOf wsX4_floorOf) := goodIn_app (goodIn_of _ (by decide +kernel)) ggX4_raise_X4_floorOf
set_option maxRecDepth 20000 in
theorem ggX4_raise_X4_raise : GoodIn wsX4_raise wsX4_raise := goodIn_r _ [0, 1, 2, 3, 4, 5, 6, 7, 8, 9, 10, 11, 12, 13, 14, 15, 16, 17, 18, 19, 20, 21, 22, 23, 24, 25, 26, 27, 28, 29, 30, 31, 32, 33, 34, 35, 36, 37, 38, 39, 40, 41, 42, 43, 44, 45, 46, 47, 48, 49, 50] (by decide +kernel) (by decide +kernel)
set_option maxRecDepth 20000 in
theorem gX4_raise_X4_raise : GoodIn wsX4_raise (va_wsS RX4 84 yX4_raise wsX4_raise) := goodIn_app (goodIn_of _ (by decide +kernel)) ggX4_raise_X4_raise
set_option maxRecDepth 20000 in
theorem ggX4_raise_X4_runSluice : GoodIn wsX4_raise wsX4_runSluice := goodIn_r _ [24, 25, 26, 27, 28, 29, 30, 31, 32, 5, 33, 1, 2, 3, 4, 6, 7, 8, 9, 10, 11, 12, 13, 14, 15, 16, 17, 18, 34, 35, 36, 37, 38, 39, 40, 41, 42, 43, 44, 45, 46, 47, 48, 49, 50] (by decide +kernel) (by decide +kernel)
set_option maxRecDepth 20000 in
theorem gX4_raise_X4_runSluice : GoodIn wsX4_raise (wsV RX4 92 RX4 yX4_runSluice wsX4_runSluice) := goodIn_app (goodIn_of _ (by decide +kernel)) ggX4_raise_X4_runSluice
theorem dX4_raise_0 : decode cX4_raise 0 = .ok (.aload_n 0, 1) := by decide +kernel
theorem dX4_raise_1 : decode cX4_raise 1 = .ok (.ifnull 16, 3) := by decide +kernel
theorem dX4_raise_4 : decode cX4_raise 4 = .ok (.iload_n 1, 1) := by decide +kernel
theorem dX4_raise_5 : decode cX4_raise 5 = .ok (.ifCond .lt 12, 3) := by decide +kernel
theorem dX4_raise_8 : decode cX4_raise 8 = .ok (.iload_n 1, 1) := by decide +kernel
theorem dX4_raise_9 : decode cX4_raise 9 = .ok (.aload_n 0, 1) := by decide +kernel
theorem dX4_raise_10 : decode cX4_raise 10 = .ok (.getfield 22, 3) := by decide +kernel
theorem dX4_raise_13 : decode cX4_raise 13 = .ok (.arraylength, 1) := by decide +kernel
theorem dX4_raise_14 : decode cX4_raise 14 = .ok (.if_icmp .lt 5, 3) := by decide +kernel
theorem dX4_raise_17 : decode cX4_raise 17 = .ok (.iconst 0, 1) := by decide +kernel
theorem dX4_raise_18 : decode cX4_raise 18 = .ok (.ireturn, 1) := by decide +kernel
theorem dX4_raise_19 : decode cX4_raise 19 = .ok (.iload_n 2, 1) := by decide +kernel
theorem dX4_raise_20 : decode cX4_raise 20 = .ok (.aload_n 0, 1) := by decide +kernel
theorem dX4_raise_21 : decode cX4_raise 21 = .ok (.iload_n 1, 1) := by decide +kernel
theorem dX4_raise_22 : decode cX4_raise 22 = .ok (.invokevirtual 56, 3) := by decide +kernel
theorem dX4_raise_25 : decode cX4_raise 25 = .ok (.isub, 1) := by decide +kernel
theorem dX4_raise_26 : decode cX4_raise 26 = .ok (.istore_n 3, 1) := by decide +kernel
theorem dX4_raise_27 : decode cX4_raise 27 = .ok (.iload_n 3, 1) := by decide +kernel
theorem dX4_raise_28 : decode cX4_raise 28 = .ok (.ifCond .gt 5, 3) := by decide +kernel
theorem dX4_raise_31 : decode cX4_raise 31 = .ok (.iconst 1, 1) := by decide +kernel
theorem dX4_raise_32 : decode cX4_raise 32 = .ok (.ireturn, 1) := by decide +kernel
theorem dX4_raise_33 : decode cX4_raise 33 = .ok (.iload_n 1, 1) := by decide +kernel
theorem dX4_raise_34 : decode cX4_raise 34 = .ok (.iconst 1, 1) := by decide +kernel
theorem dX4_raise_35 : decode cX4_raise 35 = .ok (.iadd, 1) := by decide +kernel
theorem dX4_raise_36 : decode cX4_raise 36 = .ok (.istore 4, 2) := by decide +kernel
theorem dX4_raise_38 : decode cX4_raise 38 = .ok (.iload 4, 2) := by decide +kernel
theorem dX4_raise_40 : decode cX4_raise 40 = .ok (.aload_n 0, 1) := by decide +kernel
theorem dX4_raise_41 : decode cX4_raise 41 = .ok (.getfield 22, 3) := by decide +kernel
theorem dX4_raise_44 : decode cX4_raise 44 = .ok (.arraylength, 1) := by decide +kernel
theorem dX4_raise_45 : decode cX4_raise 45 = .ok (.if_icmp .ge 22, 3) := by decide +kernel
theorem dX4_raise_48 : decode cX4_raise 48 = .ok (.aload_n 0, 1) := by decide +kernel
theorem dX4_raise_49 : decode cX4_raise 49 = .ok (.iload 4, 2) := by decide +kernel
theorem dX4_raise_51 : decode cX4_raise 51 = .ok (.aload_n 0, 1) := by decide +kernel
theorem dX4_raise_52 : decode cX4_raise 52 = .ok (.iload 4, 2) := by decide +kernel
theorem dX4_raise_54 : decode cX4_raise 54 = .ok (.invokevirtual 67, 3) := by decide +kernel
theorem dX4_raise_57 : decode cX4_raise 57 = .ok (.iload_n 3, 1) := by decide +kernel
theorem dX4_raise_58 : decode cX4_raise 58 = .ok (.iadd, 1) := by decide +kernel
theorem dX4_raise_59 : decode cX4_raise 59 = .ok (.invokestatic 84, 3) := by decide +kernel
theorem dX4_raise_62 : decode cX4_raise 62 = .ok (.ifCond .ne 5, 3) := by decide +kernel
theorem dX4_raise_65 : decode cX4_raise 65 = .ok (.iconst 0, 1) := by decide +kernel
theorem dX4_raise_66 : decode cX4_raise 66 = .ok (.ireturn, 1) := by decide +kernel
theorem dX4_raise_67 : decode cX4_raise 67 = .ok (.aload_n 0, 1) := by decide +kernel
theorem dX4_raise_68 : decode cX4_raise 68 = .ok (.iload 4, 2) := by decide +kernel
theorem dX4_raise_70 : decode cX4_raise 70 = .ok (.iload_n 3, 1) := by decide +kernel
theorem dX4_raise_71 : decode cX4_raise 71 = .ok (.invokevirtual 92, 3) := by decide +kernel
theorem dX4_raise_74 : decode cX4_raise 74 = .ok (.aload_n 0, 1) := by decide +kernel
theorem dX4_raise_75 : decode cX4_raise 75 = .ok (.iload_n 1, 1) := by decide +kernel
theorem dX4_raise_76 : decode cX4_raise 76 = .ok (.invokevirtual 56, 3) := by decide +kernel
theorem dX4_raise_79 : decode cX4_raise 79 = .ok (.iload_n 2, 1) := by decide +kernel
theorem dX4_raise_80 : decode cX4_raise 80 = .ok (.if_icmp .lt 7, 3) := by decide +kernel
theorem dX4_raise_83 : decode cX4_raise 83 = .ok (.iconst 1, 1) := by decide +kernel
theorem dX4_raise_84 : decode cX4_raise 84 = .ok (.goto 4, 3) := by decide +kernel
theorem dX4_raise_87 : decode cX4_raise 87 = .ok (.iconst 0, 1) := by decide +kernel
theorem dX4_raise_88 : decode cX4_raise 88 = .ok (.ireturn, 1) := by decide +kernel
set_option maxRecDepth 20000 in
theorem ggX4_isBalanced_X4_floorOf : GoodIn wsX4_isBalanced wsX4_floorOf := goodIn_r _ [9, 10, 20, 21, 22, 23, 24, 25, 26, 27] (by decide +kernel) (by decide +kernel)
set_option maxRecDepth 20000 in
theorem gX4_isBalanced_X4_floorOf : GoodIn wsX4_isBalanced (wsV RX4 67 RX4 yX4_floorOf wsX4_floorOf) := goodIn_app (goodIn_of _ (by decide +kernel)) ggX4_isBalanced_X4_floorOf
set_option maxRecDepth 20000 in
theorem ggX4_isBalanced_X4_topOf : GoodIn wsX4_isBalanced wsX4_topOf := goodIn_r _ [14, 10, 20, 21, 22, 23, 24, 25, 26, 27] (by decide +kernel) (by decide +kernel)
set_option maxRecDepth 20000 in
theorem gX4_isBalanced_X4_topOf : GoodIn wsX4_isBalanced (wsV RX4 70 RX4 yX4_topOf wsX4_topOf) := goodIn_app (goodIn_of _ (by decide +kernel)) ggX4_isBalanced_X4_topOf
set_option maxRecDepth 20000 in
theorem ggX4_isBalanced_X4_fullPound : GoodIn wsX4_isBalanced wsX4_fullPound := goodIn_r _ [18, 19, 20, 21, 22, 23, 24, 25, 26, 27] (by decide +kernel) (by decide +kernel)
set_option maxRecDepth 20000 in
theorem gX4_isBalanced_X4_fullPound : GoodIn wsX4_isBalanced (wsV RX4 60 RX4 yX4_fullPound wsX4_fullPound) := goodIn_app (goodIn_of _ (by decide +kernel)) ggX4_isBalanced_X4_fullPound
theorem dX4_isBalanced_0 : decode cX4_isBalanced 0 = .ok (.aload_n 0, 1) := by decide +kernel
theorem dX4_isBalanced_1 : decode cX4_isBalanced 1 = .ok (.getfield 29, 3) := by decide +kernel
theorem dX4_isBalanced_4 : decode cX4_isBalanced 4 = .ok (.aload_n 0, 1) := by decide +kernel
theorem dX4_isBalanced_5 : decode cX4_isBalanced 5 = .ok (.getfield 44, 3) := by decide +kernel
theorem dX4_isBalanced_8 : decode cX4_isBalanced 8 = .ok (.iadd, 1) := by decide +kernel
theorem dX4_isBalanced_9 : decode cX4_isBalanced 9 = .ok (.istore_n 1, 1) := by decide +kernel
theorem dX4_isBalanced_10 : decode cX4_isBalanced 10 = .ok (.iconst 0, 1) := by decide +kernel
theorem dX4_isBalanced_11 : decode cX4_isBalanced 11 = .ok (.istore_n 2, 1) := by decide +kernel
theorem dX4_isBalanced_12 : decode cX4_isBalanced 12 = .ok (.iload_n 2, 1) := by decide +kernel
theorem dX4_isBalanced_13 : decode cX4_isBalanced 13 = .ok (.aload_n 0, 1) := by decide +kernel
theorem dX4_isBalanced_14 : decode cX4_isBalanced 14 = .ok (.getfield 22, 3) := by decide +kernel
theorem dX4_isBalanced_17 : decode cX4_isBalanced 17 = .ok (.arraylength, 1) := by decide +kernel
theorem dX4_isBalanced_18 : decode cX4_isBalanced 18 = .ok (.if_icmp .ge 54, 3) := by decide +kernel
theorem dX4_isBalanced_21 : decode cX4_isBalanced 21 = .ok (.aload_n 0, 1) := by decide +kernel
theorem dX4_isBalanced_22 : decode cX4_isBalanced 22 = .ok (.getfield 22, 3) := by decide +kernel
theorem dX4_isBalanced_25 : decode cX4_isBalanced 25 = .ok (.iload_n 2, 1) := by decide +kernel
theorem dX4_isBalanced_26 : decode cX4_isBalanced 26 = .ok (.iaload, 1) := by decide +kernel
theorem dX4_isBalanced_27 : decode cX4_isBalanced 27 = .ok (.aload_n 0, 1) := by decide +kernel
theorem dX4_isBalanced_28 : decode cX4_isBalanced 28 = .ok (.iload_n 2, 1) := by decide +kernel
theorem dX4_isBalanced_29 : decode cX4_isBalanced 29 = .ok (.invokevirtual 67, 3) := by decide +kernel
theorem dX4_isBalanced_32 : decode cX4_isBalanced 32 = .ok (.if_icmp .lt 17, 3) := by decide +kernel
theorem dX4_isBalanced_35 : decode cX4_isBalanced 35 = .ok (.aload_n 0, 1) := by decide +kernel
theorem dX4_isBalanced_36 : decode cX4_isBalanced 36 = .ok (.getfield 22, 3) := by decide +kernel
theorem dX4_isBalanced_39 : decode cX4_isBalanced 39 = .ok (.iload_n 2, 1) := by decide +kernel
theorem dX4_isBalanced_40 : decode cX4_isBalanced 40 = .ok (.iaload, 1) := by decide +kernel
theorem dX4_isBalanced_41 : decode cX4_isBalanced 41 = .ok (.aload_n 0, 1) := by decide +kernel
theorem dX4_isBalanced_42 : decode cX4_isBalanced 42 = .ok (.iload_n 2, 1) := by decide +kernel
theorem dX4_isBalanced_43 : decode cX4_isBalanced 43 = .ok (.invokevirtual 70, 3) := by decide +kernel
theorem dX4_isBalanced_46 : decode cX4_isBalanced 46 = .ok (.if_icmp .le 5, 3) := by decide +kernel
theorem dX4_isBalanced_49 : decode cX4_isBalanced 49 = .ok (.iconst 0, 1) := by decide +kernel
theorem dX4_isBalanced_50 : decode cX4_isBalanced 50 = .ok (.ireturn, 1) := by decide +kernel
theorem dX4_isBalanced_51 : decode cX4_isBalanced 51 = .ok (.iload_n 1, 1) := by decide +kernel
theorem dX4_isBalanced_52 : decode cX4_isBalanced 52 = .ok (.aload_n 0, 1) := by decide +kernel
theorem dX4_isBalanced_53 : decode cX4_isBalanced 53 = .ok (.getfield 22, 3) := by decide +kernel
theorem dX4_isBalanced_56 : decode cX4_isBalanced 56 = .ok (.iload_n 2, 1) := by decide +kernel
theorem dX4_isBalanced_57 : decode cX4_isBalanced 57 = .ok (.iaload, 1) := by decide +kernel
theorem dX4_isBalanced_58 : decode cX4_isBalanced 58 = .ok (.aload_n 0, 1) := by decide +kernel
theorem dX4_isBalanced_59 : decode cX4_isBalanced 59 = .ok (.iload_n 2, 1) := by decide +kernel
theorem dX4_isBalanced_60 : decode cX4_isBalanced 60 = .ok (.invokevirtual 67, 3) := by decide +kernel
theorem dX4_isBalanced_63 : decode cX4_isBalanced 63 = .ok (.isub, 1) := by decide +kernel
theorem dX4_isBalanced_64 : decode cX4_isBalanced 64 = .ok (.iadd, 1) := by decide +kernel
theorem dX4_isBalanced_65 : decode cX4_isBalanced 65 = .ok (.istore_n 1, 1) := by decide +kernel
theorem dX4_isBalanced_66 : decode cX4_isBalanced 66 = .ok (.iinc 2 1, 3) := by decide +kernel
theorem dX4_isBalanced_69 : decode cX4_isBalanced 69 = .ok (.goto (-57), 3) := by decide +kernel
theorem dX4_isBalanced_72 : decode cX4_isBalanced 72 = .ok (.iload_n 1, 1) := by decide +kernel
theorem dX4_isBalanced_73 : decode cX4_isBalanced 73 = .ok (.aload_n 0, 1) := by decide +kernel
theorem dX4_isBalanced_74 : decode cX4_isBalanced 74 = .ok (.invokevirtual 60, 3) := by decide +kernel
theorem dX4_isBalanced_77 : decode cX4_isBalanced 77 = .ok (.aload_n 0, 1) := by decide +kernel
theorem dX4_isBalanced_78 : decode cX4_isBalanced 78 = .ok (.getfield 47, 3) := by decide +kernel
theorem dX4_isBalanced_81 : decode cX4_isBalanced 81 = .ok (.iadd, 1) := by decide +kernel
theorem dX4_isBalanced_82 : decode cX4_isBalanced 82 = .ok (.if_icmp .ne 7, 3) := by decide +kernel
theorem dX4_isBalanced_85 : decode cX4_isBalanced 85 = .ok (.iconst 1, 1) := by decide +kernel
theorem dX4_isBalanced_86 : decode cX4_isBalanced 86 = .ok (.goto 4, 3) := by decide +kernel
theorem dX4_isBalanced_89 : decode cX4_isBalanced 89 = .ok (.iconst 0, 1) := by decide +kernel
theorem dX4_isBalanced_90 : decode cX4_isBalanced 90 = .ok (.ireturn, 1) := by decide +kernel
set_option maxRecDepth 20000 in
theorem ggX5_init_X2_init : GoodIn wsX5_init wsX2_init := goodIn_r _ [11, 12, 2, 3, 13, 14, 15, 16, 17, 18, 19, 20, 21, 22, 23, 24, 25, 26, 27, 28, 29, 30, 31, 32, 33, 34, 35, 36, 37, 38, 39, 40, 41, 42, 43, 44, 45, 46, 47, 48, 49, 50, 51, 52, 53, 54, 55, 56, 57, 58, 59, 60, 61, 62, 63, 64, 65, 66, 73, 74, 67, 68, 69, 70, 75, 76, 77, 78, 79, 80, 81, 82, 83, 84, 85, 86, 87, 88, 89, 90] (by decide +kernel) (by decide +kernel)
set_option maxRecDepth 20000 in
theorem gX5_init_X2_init : GoodIn wsX5_init (wsX2_init) := ggX5_init_X2_init
theorem dX5_init_0 : decode cX5_init 0 = .ok (.aload_n 0, 1) := by decide +kernel
theorem dX5_init_1 : decode cX5_init 1 = .ok (.invokespecial 3, 3) := by decide +kernel
theorem dX5_init_4 : decode cX5_init 4 = .ok (.aload_n 0, 1) := by decide +kernel
theorem dX5_init_5 : decode cX5_init 5 = .ok (.new 9, 3) := by decide +kernel
theorem dX5_init_8 : decode cX5_init 8 = .ok (.dup, 1) := by decide +kernel
theorem dX5_init_9 : decode cX5_init 9 = .ok (.iload_n 1, 1) := by decide +kernel
theorem dX5_init_10 : decode cX5_init 10 = .ok (.iload_n 2, 1) := by decide +kernel
theorem dX5_init_11 : decode cX5_init 11 = .ok (.iload_n 3, 1) := by decide +kernel
theorem dX5_init_12 : decode cX5_init 12 = .ok (.invokespecial 11, 3) := by decide +kernel
theorem dX5_init_15 : decode cX5_init 15 = .ok (.putfield 14, 3) := by decide +kernel
theorem dX5_init_18 : decode cX5_init 18 = .ok (.aload_n 0, 1) := by decide +kernel
theorem dX5_init_19 : decode cX5_init 19 = .ok (.new 9, 3) := by decide +kernel
theorem dX5_init_22 : decode cX5_init 22 = .ok (.dup, 1) := by decide +kernel
theorem dX5_init_23 : decode cX5_init 23 = .ok (.iload_n 1, 1) := by decide +kernel
theorem dX5_init_24 : decode cX5_init 24 = .ok (.iload_n 2, 1) := by decide +kernel
theorem dX5_init_25 : decode cX5_init 25 = .ok (.iload_n 3, 1) := by decide +kernel
theorem dX5_init_26 : decode cX5_init 26 = .ok (.invokespecial 11, 3) := by decide +kernel
theorem dX5_init_29 : decode cX5_init 29 = .ok (.putfield 18, 3) := by decide +kernel
theorem dX5_init_32 : decode cX5_init 32 = .ok (.return_, 1) := by decide +kernel
set_option maxRecDepth 20000 in
theorem ggX5_chambers_X4_count : GoodIn wsX5_chambers wsX4_count := goodIn_r _ [6, 7, 14, 15, 16, 17, 18, 19, 20, 21] (by decide +kernel) (by decide +kernel)
set_option maxRecDepth 20000 in
theorem gX5_chambers_X4_count : GoodIn wsX5_chambers (wsV RX5 25 RX4 yX4_count wsX4_count) := goodIn_app (goodIn_of _ (by decide +kernel)) ggX5_chambers_X4_count
theorem dX5_chambers_0 : decode cX5_chambers 0 = .ok (.aload_n 0, 1) := by decide +kernel
theorem dX5_chambers_1 : decode cX5_chambers 1 = .ok (.getfield 14, 3) := by decide +kernel
theorem dX5_chambers_4 : decode cX5_chambers 4 = .ok (.getfield 21, 3) := by decide +kernel
theorem dX5_chambers_7 : decode cX5_chambers 7 = .ok (.invokevirtual 25, 3) := by decide +kernel
theorem dX5_chambers_10 : decode cX5_chambers 10 = .ok (.ireturn, 1) := by decide +kernel
set_option maxRecDepth 20000 in
theorem ggX5_levelOf_X5_needChamber : GoodIn wsX5_levelOf wsX5_needChamber := goodIn_ca (goodIn_r _ [6, 7, 8, 1, 9, 10, 11, 12, 13, 14, 26, 27, 28, 29, 30, 31, 32, 33, 34, 35, 36, 37, 38, 39] (by decide +kernel) (by decide +kernel)) (goodIn_sub (fun _ h => List.mem_cons_of_mem _ (List.mem_append_right _ h)) (by decide +kernel))
set_option maxRecDepth 20000 in
theorem gX5_levelOf_X5_needChamber : GoodIn wsX5_levelOf (wsV RX5 31 RX5 yX5_needChamber wsX5_needChamber) := goodIn_app (goodIn_of _ (by decide +kernel)) ggX5_levelOf_X5_needChamber
set_option maxRecDepth 20000 in
theorem ggX5_levelOf_X4_levelAt : GoodIn wsX5_levelOf wsX4_levelAt := goodIn_r _ [18, 14, 19, 20, 21, 22, 23, 24, 25, 32, 33, 34, 35, 36, 37, 38, 39] (by decide +kernel) (by decide +kernel)
set_option maxRecDepth 20000 in
theorem gX5_levelOf_X4_levelAt : GoodIn wsX5_levelOf (wsV RX5 35 RX4 yX4_levelAt wsX4_levelAt) := goodIn_app (goodIn_of _ (by decide +kernel)) ggX5_levelOf_X4_levelAt
theorem dX5_levelOf_0 : decode cX5_levelOf 0 = .ok (.aload_n 0, 1) := by decide +kernel
theorem dX5_levelOf_1 : decode cX5_levelOf 1 = .ok (.iload_n 1, 1) := by decide +kernel
theorem dX5_levelOf_2 : decode cX5_levelOf 2 = .ok (.invokevirtual 31, 3) := by decide +kernel
theorem dX5_levelOf_5 : decode cX5_levelOf 5 = .ok (.aload_n 0, 1) := by decide +kernel
theorem dX5_levelOf_6 : decode cX5_levelOf 6 = .ok (.getfield 14, 3) := by decide +kernel
theorem dX5_levelOf_9 : decode cX5_levelOf 9 = .ok (.getfield 21, 3) := by decide +kernel
theorem dX5_levelOf_12 : decode cX5_levelOf 12 = .ok (.iload_n 1, 1) := by decide +kernel
theorem dX5_levelOf_13 : decode cX5_levelOf 13 = .ok (.invokevirtual 35, 3) := by decide +kernel
theorem dX5_levelOf_16 : decode cX5_levelOf 16 = .ok (.ireturn, 1) := by decide +kernel
set_option maxRecDepth 20000 in
theorem ggX5_poundLevel_X4_count : GoodIn wsX5_poundLevel wsX4_count := goodIn_r _ [6, 7, 25, 26, 27, 28, 29, 30, 31, 32] (by decide +kernel) (by decide +kernel)
set_option maxRecDepth 20000 in
theorem gX5_poundLevel_X4_count : GoodIn wsX5_poundLevel (wsV RX5 25 RX4 yX4_count wsX4_count) := goodIn_app (goodIn_of _ (by decide +kernel)) ggX5_poundLevel_X4_count
set_option maxRecDepth 20000 in
theorem ggX5_poundLevel_X4_levelAt : GoodIn wsX5_poundLevel wsX4_levelAt := goodIn_r _ [11, 7, 12, 13, 14, 15, 16, 17, 18, 25, 26, 27, 28, 29, 30, 31, 32] (by decide +kernel) (by decide +kernel)
set_option maxRecDepth 20000 in
theorem gX5_poundLevel_X4_levelAt : GoodIn wsX5_poundLevel (wsV RX5 35 RX4 yX4_levelAt wsX4_levelAt) := goodIn_app (goodIn_of _ (by decide +kernel)) ggX5_poundLevel_X4_levelAt
theorem dX5_poundLevel_0 : decode cX5_poundLevel 0 = .ok (.aload_n 0, 1) := by decide +kernel
theorem dX5_poundLevel_1 : decode cX5_poundLevel 1 = .ok (.getfield 14, 3) := by decide +kernel
theorem dX5_poundLevel_4 : decode cX5_poundLevel 4 = .ok (.getfield 21, 3) := by decide +kernel
theorem dX5_poundLevel_7 : decode cX5_poundLevel 7 = .ok (.aload_n 0, 1) := by decide +kernel
theorem dX5_poundLevel_8 : decode cX5_poundLevel 8 = .ok (.getfield 14, 3) := by decide +kernel
theorem dX5_poundLevel_11 : decode cX5_poundLevel 11 = .ok (.getfield 21, 3) := by decide +kernel
theorem dX5_poundLevel_14 : decode cX5_poundLevel 14 = .ok (.invokevirtual 25, 3) := by decide +kernel
theorem dX5_poundLevel_17 : decode cX5_poundLevel 17 = .ok (.invokevirtual 35, 3) := by decide +kernel
theorem dX5_poundLevel_20 : decode cX5_poundLevel 20 = .ok (.ireturn, 1) := by decide +kernel
set_option maxRecDepth 20000 in
theorem ggX5_poundDepth_X4_depth : GoodIn wsX5_poundDepth wsX4_depth := goodIn_r _ [6, 7, 8, 9, 10, 11, 5, 12, 13, 14, 15, 16, 17, 18, 25, 26, 27, 28, 29, 30, 31, 32] (by decide +kernel) (by decide +kernel)
set_option maxRecDepth 20000 in
theorem gX5_poundDepth_X4_depth : GoodIn wsX5_poundDepth (wsV RX5 39 RX4 yX4_depth wsX4_depth) := goodIn_app (goodIn_of _ (by decide +kernel)) ggX5_poundDepth_X4_depth
theorem dX5_poundDepth_0 : decode cX5_poundDepth 0 = .ok (.aload_n 0, 1) := by decide +kernel
theorem dX5_poundDepth_1 : decode cX5_poundDepth 1 = .ok (.getfield 14, 3) := by decide +kernel
theorem dX5_poundDepth_4 : decode cX5_poundDepth 4 = .ok (.getfield 21, 3) := by decide +kernel
theorem dX5_poundDepth_7 : decode cX5_poundDepth 7 = .ok (.invokevirtual 39, 3) := by decide +kernel
theorem dX5_poundDepth_10 : decode cX5_poundDepth 10 = .ok (.ireturn, 1) := by decide +kernel
theorem dX5_poundWater_0 : decode cX5_poundWater 0 = .ok (.aload_n 0, 1) := by decide +kernel
theorem dX5_poundWater_1 : decode cX5_poundWater 1 = .ok (.getfield 14, 3) := by decide +kernel
theorem dX5_poundWater_4 : decode cX5_poundWater 4 = .ok (.getfield 21, 3) := by decide +kernel
theorem dX5_poundWater_7 : decode cX5_poundWater 7 = .ok (.getfield 42, 3) := by decide +kernel
theorem dX5_poundWater_10 : decode cX5_poundWater 10 = .ok (.ireturn, 1) := by decide +kernel
set_option maxRecDepth 20000 in
theorem ggX5_rain_X4_count : GoodIn wsX5_rain wsX4_count := goodIn_r _ [10, 11, 39, 40, 41, 42, 43, 44, 45, 46] (by decide +kernel) (by decide +kernel)
set_option maxRecDepth 20000 in
theorem gX5_rain_X4_count : GoodIn wsX5_rain (wsV RX5 25 RX4 yX4_count wsX4_count) := goodIn_app (goodIn_of _ (by decide +kernel)) ggX5_rain_X4_count
set_option maxRecDepth 20000 in
theorem ggX5_rain_X1_isOpenAt : GoodIn wsX5_rain wsX1_isOpenAt := goodIn_r _ [16, 17, 47, 48] (by decide +kernel) (by decide +kernel)
set_option maxRecDepth 20000 in
theorem gX5_rain_X1_isOpenAt : GoodIn wsX5_rain (wsV RX5 57 RX1 yX1_isOpenAt wsX1_isOpenAt) := goodIn_app (goodIn_of _ (by decide +kernel)) ggX5_rain_X1_isOpenAt
set_option maxRecDepth 20000 in
theorem ggX5_rain_X4_pour : GoodIn wsX5_rain wsX4_pour := goodIn_r _ [21, 22, 23, 24, 25, 26, 27, 28, 29, 30, 9, 31, 32, 39, 40, 41, 42, 43, 44, 45, 46] (by decide +kernel) (by decide +kernel)
set_option maxRecDepth 20000 in
theorem gX5_rain_X4_pour : GoodIn wsX5_rain (wsV RX5 68 RX4 yX4_pour wsX4_pour) := goodIn_app (goodIn_of _ (by decide +kernel)) ggX5_rain_X4_pour
theorem dX5_rain_0 : decode cX5_rain 0 = .ok (.iload_n 1, 1) := by decide +kernel
theorem dX5_rain_1 : decode cX5_rain 1 = .ok (.iconst 1, 1) := by decide +kernel
theorem dX5_rain_2 : decode cX5_rain 2 = .ok (.if_icmp .lt 10, 3) := by decide +kernel
theorem dX5_rain_5 : decode cX5_rain 5 = .ok (.iload_n 1, 1) := by decide +kernel
theorem dX5_rain_6 : decode cX5_rain 6 = .ok (.sipush 999, 3) := by decide +kernel
theorem dX5_rain_9 : decode cX5_rain 9 = .ok (.if_icmp .le 13, 3) := by decide +kernel
theorem dX5_rain_12 : decode cX5_rain 12 = .ok (.new 46, 3) := by decide +kernel
theorem dX5_rain_15 : decode cX5_rain 15 = .ok (.dup, 1) := by decide +kernel
theorem dX5_rain_16 : decode cX5_rain 16 = .ok (.ldc 48, 2) := by decide +kernel
theorem dX5_rain_18 : decode cX5_rain 18 = .ok (.invokespecial 50, 3) := by decide +kernel
theorem dX5_rain_21 : decode cX5_rain 21 = .ok (.athrow, 1) := by decide +kernel
theorem dX5_rain_22 : decode cX5_rain 22 = .ok (.aload_n 0, 1) := by decide +kernel
theorem dX5_rain_23 : decode cX5_rain 23 = .ok (.getfield 14, 3) := by decide +kernel
theorem dX5_rain_26 : decode cX5_rain 26 = .ok (.getfield 53, 3) := by decide +kernel
theorem dX5_rain_29 : decode cX5_rain 29 = .ok (.aload_n 0, 1) := by decide +kernel
theorem dX5_rain_30 : decode cX5_rain 30 = .ok (.getfield 14, 3) := by decide +kernel
theorem dX5_rain_33 : decode cX5_rain 33 = .ok (.getfield 21, 3) := by decide +kernel
theorem dX5_rain_36 : decode cX5_rain 36 = .ok (.invokevirtual 25, 3) := by decide +kernel
theorem dX5_rain_39 : decode cX5_rain 39 = .ok (.invokevirtual 57, 3) := by decide +kernel
theorem dX5_rain_42 : decode cX5_rain 42 = .ok (.ifCond .eq 13, 3) := by decide +kernel
theorem dX5_rain_45 : decode cX5_rain 45 = .ok (.new 63, 3) := by decide +kernel
theorem dX5_rain_48 : decode cX5_rain 48 = .ok (.dup, 1) := by decide +kernel
theorem dX5_rain_49 : decode cX5_rain 49 = .ok (.ldc 65, 2) := by decide +kernel
theorem dX5_rain_51 : decode cX5_rain 51 = .ok (.invokespecial 67, 3) := by decide +kernel
theorem dX5_rain_54 : decode cX5_rain 54 = .ok (.athrow, 1) := by decide +kernel
theorem dX5_rain_55 : decode cX5_rain 55 = .ok (.aload_n 0, 1) := by decide +kernel
theorem dX5_rain_56 : decode cX5_rain 56 = .ok (.getfield 14, 3) := by decide +kernel
theorem dX5_rain_59 : decode cX5_rain 59 = .ok (.getfield 21, 3) := by decide +kernel
theorem dX5_rain_62 : decode cX5_rain 62 = .ok (.iload_n 1, 1) := by decide +kernel
theorem dX5_rain_63 : decode cX5_rain 63 = .ok (.invokevirtual 68, 3) := by decide +kernel
theorem dX5_rain_66 : decode cX5_rain 66 = .ok (.ireturn, 1) := by decide +kernel
set_option maxRecDepth 20000 in
theorem ggX5_headAt_X5_needGate : GoodIn wsX5_headAt wsX5_needGate := goodIn_ca (goodIn_r _ [6, 7, 8, 1, 9, 10, 11, 12, 13, 14, 30, 31, 32, 33, 34, 35, 36, 37, 38, 39, 40, 41, 42, 43] (by decide +kernel) (by decide +kernel)) (goodIn_sub (fun _ h => List.mem_cons_of_mem _ (List.mem_append_right _ h)) (by decide +kernel))
set_option maxRecDepth 20000 in
theorem gX5_headAt_X5_needGate : GoodIn wsX5_headAt (wsV RX5 71 RX5 yX5_needGate wsX5_needGate) := goodIn_app (goodIn_of _ (by decide +kernel)) ggX5_headAt_X5_needGate
set_option maxRecDepth 20000 in
theorem ggX5_headAt_X4_headOver : GoodIn wsX5_headAt wsX4_headOver := goodIn_r _ [18, 19, 20, 21, 12, 22, 14, 23, 24, 25, 26, 27, 28, 29, 36, 37, 38, 39, 40, 41, 42, 43] (by decide +kernel) (by decide +kernel)
set_option maxRecDepth 20000 in
theorem gX5_headAt_X4_headOver : GoodIn wsX5_headAt (wsV RX5 74 RX4 yX4_headOver wsX4_headOver) := goodIn_app (goodIn_of _ (by decide +kernel)) ggX5_headAt_X4_headOver
theorem dX5_headAt_0 : decode cX5_headAt 0 = .ok (.aload_n 0, 1) := by decide +kernel
theorem dX5_headAt_1 : decode cX5_headAt 1 = .ok (.iload_n 1, 1) := by decide +kernel
theorem dX5_headAt_2 : decode cX5_headAt 2 = .ok (.invokevirtual 71, 3) := by decide +kernel
theorem dX5_headAt_5 : decode cX5_headAt 5 = .ok (.aload_n 0, 1) := by decide +kernel
theorem dX5_headAt_6 : decode cX5_headAt 6 = .ok (.getfield 14, 3) := by decide +kernel
theorem dX5_headAt_9 : decode cX5_headAt 9 = .ok (.getfield 21, 3) := by decide +kernel
theorem dX5_headAt_12 : decode cX5_headAt 12 = .ok (.iload_n 1, 1) := by decide +kernel
theorem dX5_headAt_13 : decode cX5_headAt 13 = .ok (.invokevirtual 74, 3) := by decide +kernel
theorem dX5_headAt_16 : decode cX5_headAt 16 = .ok (.ireturn, 1) := by decide +kernel
set_option maxRecDepth 20000 in
theorem ggX5_isOpen_X5_needGate : GoodIn wsX5_isOpen wsX5_needGate := goodIn_ca (goodIn_r _ [6, 7, 8, 1, 9, 10, 11, 12, 13, 14, 21, 22, 23, 24, 25, 26, 27, 28, 29, 30, 31, 32, 33, 34] (by decide +kernel) (by decide +kernel)) (goodIn_sub (fun _ h => List.mem_cons_of_mem _ (List.mem_append_right _ h)) (by decide +kernel))
set_option maxRecDepth 20000 in
theorem gX5_isOpen_X5_needGate : GoodIn wsX5_isOpen (wsV RX5 71 RX5 yX5_needGate wsX5_needGate) := goodIn_app (goodIn_of _ (by decide +kernel)) ggX5_isOpen_X5_needGate
set_option maxRecDepth 20000 in
theorem ggX5_isOpen_X1_isOpenAt : GoodIn wsX5_isOpen wsX1_isOpenAt := goodIn_r _ [19, 20, 35, 36] (by decide +kernel) (by decide +kernel)
set_option maxRecDepth 20000 in
theorem gX5_isOpen_X1_isOpenAt : GoodIn wsX5_isOpen (wsV RX5 57 RX1 yX1_isOpenAt wsX1_isOpenAt) := goodIn_app (goodIn_of _ (by decide +kernel)) ggX5_isOpen_X1_isOpenAt
theorem dX5_isOpen_0 : decode cX5_isOpen 0 = .ok (.aload_n 0, 1) := by decide +kernel
theorem dX5_isOpen_1 : decode cX5_isOpen 1 = .ok (.iload_n 1, 1) := by decide +kernel
theorem dX5_isOpen_2 : decode cX5_isOpen 2 = .ok (.invokevirtual 71, 3) := by decide +kernel
theorem dX5_isOpen_5 : decode cX5_isOpen 5 = .ok (.aload_n 0, 1) := by decide +kernel
theorem dX5_isOpen_6 : decode cX5_isOpen 6 = .ok (.getfield 14, 3) := by decide +kernel
theorem dX5_isOpen_9 : decode cX5_isOpen 9 = .ok (.getfield 53, 3) := by decide +kernel
theorem dX5_isOpen_12 : decode cX5_isOpen 12 = .ok (.iload_n 1, 1) := by decide +kernel
theorem dX5_isOpen_13 : decode cX5_isOpen 13 = .ok (.invokevirtual 57, 3) := by decide +kernel
theorem dX5_isOpen_16 : decode cX5_isOpen 16 = .ok (.ireturn, 1) := by decide +kernel
set_option maxRecDepth 20000 in
theorem ggX5_openObstacle_X5_needGate : GoodIn wsX5_openObstacle wsX5_needGate := goodIn_ca (goodIn_r _ [6, 7, 8, 1, 9, 10, 11, 12, 13, 14, 52, 53, 54, 55, 56, 57, 58, 59, 60, 61, 62, 63, 64, 65] (by decide +kernel) (by decide +kernel)) (goodIn_sub (fun _ h => List.mem_cons_of_mem _ (List.mem_append_right _ h)) (by decide +kernel))
set_option maxRecDepth 20000 in
theorem gX5_openObstacle_X5_needGate : GoodIn wsX5_openObstacle (wsV RX5 71 RX5 yX5_needGate wsX5_needGate) := goodIn_app (goodIn_of _ (by decide +kernel)) ggX5_openObstacle_X5_needGate
set_option maxRecDepth 20000 in
theorem ggX5_openObstacle_X2_openingObstacle : GoodIn wsX5_openObstacle wsX2_openingObstacle := goodIn_r _ [19, 20, 21, 22, 23, 24, 25, 26, 27, 28, 29, 30, 31, 32, 33, 34, 35, 36, 37, 38, 39, 12, 40, 41, 42, 43, 44, 14, 45, 46, 47, 48, 49, 50, 51, 54, 55, 56, 57, 66, 67, 58, 59, 60, 61, 62, 63, 64, 65] (by decide +kernel) (by decide +kernel)
set_option maxRecDepth 20000 in
theorem gX5_openObstacle_X2_openingObstacle : GoodIn wsX5_openObstacle (wsV RX5 77 RX2 yX2_openingObstacle wsX2_openingObstacle) := goodIn_app (goodIn_of _ (by decide +kernel)) ggX5_openObstacle_X2_openingObstacle
theorem dX5_openObstacle_0 : decode cX5_openObstacle 0 = .ok (.aload_n 0, 1) := by decide +kernel
theorem dX5_openObstacle_1 : decode cX5_openObstacle 1 = .ok (.iload_n 1, 1) := by decide +kernel
theorem dX5_openObstacle_2 : decode cX5_openObstacle 2 = .ok (.invokevirtual 71, 3) := by decide +kernel
theorem dX5_openObstacle_5 : decode cX5_openObstacle 5 = .ok (.aload_n 0, 1) := by decide +kernel
theorem dX5_openObstacle_6 : decode cX5_openObstacle 6 = .ok (.getfield 14, 3) := by decide +kernel
theorem dX5_openObstacle_9 : decode cX5_openObstacle 9 = .ok (.iload_n 1, 1) := by decide +kernel
theorem dX5_openObstacle_10 : decode cX5_openObstacle 10 = .ok (.invokevirtual 77, 3) := by decide +kernel
theorem dX5_openObstacle_13 : decode cX5_openObstacle 13 = .ok (.ireturn, 1) := by decide +kernel
set_option maxRecDepth 20000 in
theorem ggX5_open_X5_needGate : GoodIn wsX5_open wsX5_needGate := goodIn_ca (goodIn_r _ [8, 9, 10, 3, 11, 12, 13, 14, 15, 16, 62, 63, 64, 65, 66, 67, 68, 69, 70, 71, 72, 73, 74, 75] (by decide +kernel) (by decide +kernel)) (goodIn_sub (fun _ h => List.mem_cons_of_mem _ (List.mem_append_right _ h)) (by decide +kernel))
set_option maxRecDepth 20000 in
theorem gX5_open_X5_needGate : GoodIn wsX5_open (wsV RX5 71 RX5 yX5_needGate wsX5_needGate) := goodIn_app (goodIn_of _ (by decide +kernel)) ggX5_open_X5_needGate
set_option maxRecDepth 20000 in
theorem ggX5_open_X2_openingObstacle : GoodIn wsX5_open wsX2_openingObstacle := goodIn_r _ [21, 22, 23, 24, 25, 26, 27, 28, 29, 30, 31, 32, 33, 34, 35, 36, 37, 38, 39, 40, 41, 14, 42, 43, 44, 45, 46, 16, 47, 48, 49, 50, 51, 52, 53, 64, 65, 66, 67, 76, 77, 68, 69, 70, 71, 72, 73, 74, 75] (by decide +kernel) (by decide +kernel)
set_option maxRecDepth 20000 in
theorem gX5_open_X2_openingObstacle : GoodIn wsX5_open (wsV RX5 77 RX2 yX2_openingObstacle wsX2_openingObstacle) := goodIn_app (goodIn_of _ (by decide +kernel)) ggX5_open_X2_openingObstacle
set_option maxRecDepth 20000 in
theorem ggX5_open_X1_setOpen : GoodIn wsX5_open wsX1_setOpen := goodIn_r _ [57, 29, 76, 77] (by decide +kernel) (by decide +kernel)
set_option maxRecDepth 20000 in
theorem gX5_open_X1_setOpen : GoodIn wsX5_open (wsV RX5 82 RX1 yX1_setOpen wsX1_setOpen) := goodIn_app (goodIn_of _ (by decide +kernel)) ggX5_open_X1_setOpen
set_option maxRecDepth 20000 in
theorem ggX5_open_X1_countOpen : GoodIn wsX5_open wsX1_countOpen := goodIn_r _ [61, 29, 76, 77] (by decide +kernel) (by decide +kernel)
set_option maxRecDepth 20000 in
theorem gX5_open_X1_countOpen : GoodIn wsX5_open (wsV RX5 86 RX1 yX1_countOpen wsX1_countOpen) := goodIn_app (goodIn_of _ (by decide +kernel)) ggX5_open_X1_countOpen
theorem dX5_open_0 : decode cX5_open 0 = .ok (.aload_n 0, 1) := by decide +kernel
theorem dX5_open_1 : decode cX5_open 1 = .ok (.iload_n 1, 1) := by decide +kernel
theorem dX5_open_2 : decode cX5_open 2 = .ok (.invokevirtual 71, 3) := by decide +kernel
theorem dX5_open_5 : decode cX5_open 5 = .ok (.aload_n 0, 1) := by decide +kernel
theorem dX5_open_6 : decode cX5_open 6 = .ok (.getfield 14, 3) := by decide +kernel
theorem dX5_open_9 : decode cX5_open 9 = .ok (.iload_n 1, 1) := by decide +kernel
theorem dX5_open_10 : decode cX5_open 10 = .ok (.invokevirtual 77, 3) := by decide +kernel
theorem dX5_open_13 : decode cX5_open 13 = .ok (.ifCond .eq 13, 3) := by decide +kernel
theorem dX5_open_16 : decode cX5_open 16 = .ok (.new 63, 3) := by decide +kernel
theorem dX5_open_19 : decode cX5_open 19 = .ok (.dup, 1) := by decide +kernel
theorem dX5_open_20 : decode cX5_open 20 = .ok (.ldc 80, 2) := by decide +kernel
theorem dX5_open_22 : decode cX5_open 22 = .ok (.invokespecial 67, 3) := by decide +kernel
theorem dX5_open_25 : decode cX5_open 25 = .ok (.athrow, 1) := by decide +kernel
theorem dX5_open_26 : decode cX5_open 26 = .ok (.aload_n 0, 1) := by decide +kernel
theorem dX5_open_27 : decode cX5_open 27 = .ok (.getfield 14, 3) := by decide +kernel
theorem dX5_open_30 : decode cX5_open 30 = .ok (.getfield 53, 3) := by decide +kernel
theorem dX5_open_33 : decode cX5_open 33 = .ok (.iload_n 1, 1) := by decide +kernel
theorem dX5_open_34 : decode cX5_open 34 = .ok (.iconst 1, 1) := by decide +kernel
theorem dX5_open_35 : decode cX5_open 35 = .ok (.invokevirtual 82, 3) := by decide +kernel
theorem dX5_open_38 : decode cX5_open 38 = .ok (.aload_n 0, 1) := by decide +kernel
theorem dX5_open_39 : decode cX5_open 39 = .ok (.getfield 14, 3) := by decide +kernel
theorem dX5_open_42 : decode cX5_open 42 = .ok (.getfield 53, 3) := by decide +kernel
theorem dX5_open_45 : decode cX5_open 45 = .ok (.invokevirtual 86, 3) := by decide +kernel
theorem dX5_open_48 : decode cX5_open 48 = .ok (.ireturn, 1) := by decide +kernel
set_option maxRecDepth 20000 in
theorem ggX5_shut_X5_needGate : GoodIn wsX5_shut wsX5_needGate := goodIn_ca (goodIn_r _ [6, 7, 8, 1, 9, 10, 11, 12, 13, 14, 25, 26, 27, 28, 29, 30, 31, 32, 33, 34, 35, 36, 37, 38] (by decide +kernel) (by decide +kernel)) (goodIn_sub (fun _ h => List.mem_cons_of_mem _ (List.mem_append_right _ h)) (by decide +kernel))
set_option maxRecDepth 20000 in
theorem gX5_shut_X5_needGate : GoodIn wsX5_shut (wsV RX5 71 RX5 yX5_needGate wsX5_needGate) := goodIn_app (goodIn_of _ (by decide +kernel)) ggX5_shut_X5_needGate
set_option maxRecDepth 20000 in
theorem ggX5_shut_X1_isOpenAt : GoodIn wsX5_shut wsX1_isOpenAt := goodIn_r _ [19, 20, 39, 40] (by decide +kernel) (by decide +kernel)
set_option maxRecDepth 20000 in
theorem gX5_shut_X1_isOpenAt : GoodIn wsX5_shut (wsV RX5 57 RX1 yX1_isOpenAt wsX1_isOpenAt) := goodIn_app (goodIn_of _ (by decide +kernel)) ggX5_shut_X1_isOpenAt
set_option maxRecDepth 20000 in
theorem ggX5_shut_X1_setOpen : GoodIn wsX5_shut wsX1_setOpen := goodIn_r _ [24, 20, 39, 40] (by decide +kernel) (by decide +kernel)
set_option maxRecDepth 20000 in
theorem gX5_shut_X1_setOpen : GoodIn wsX5_shut (wsV RX5 82 RX1 yX1_setOpen wsX1_setOpen) := goodIn_app (goodIn_of _ (by decide +kernel)) ggX5_shut_X1_setOpen
theorem dX5_shut_0 : decode cX5_shut 0 = .ok (.aload_n 0, 1) := by decide +kernel
theorem dX5_shut_1 : decode cX5_shut 1 = .ok (.iload_n 1, 1) := by decide +kernel
theorem dX5_shut_2 : decode cX5_shut 2 = .ok (.invokevirtual 71, 3) := by decide +kernel
theorem dX5_shut_5 : decode cX5_shut 5 = .ok (.aload_n 0, 1) := by decide +kernel
theorem dX5_shut_6 : decode cX5_shut 6 = .ok (.getfield 14, 3) := by decide +kernel
theorem dX5_shut_9 : decode cX5_shut 9 = .ok (.getfield 53, 3) := by decide +kernel
theorem dX5_shut_12 : decode cX5_shut 12 = .ok (.iload_n 1, 1) := by decide +kernel
theorem dX5_shut_13 : decode cX5_shut 13 = .ok (.invokevirtual 57, 3) := by decide +kernel
theorem dX5_shut_16 : decode cX5_shut 16 = .ok (.istore_n 2, 1) := by decide +kernel
theorem dX5_shut_17 : decode cX5_shut 17 = .ok (.aload_n 0, 1) := by decide +kernel
theorem dX5_shut_18 : decode cX5_shut 18 = .ok (.getfield 14, 3) := by decide +kernel
theorem dX5_shut_21 : decode cX5_shut 21 = .ok (.getfield 53, 3) := by decide +kernel
theorem dX5_shut_24 : decode cX5_shut 24 = .ok (.iload_n 1, 1) := by decide +kernel
theorem dX5_shut_25 : decode cX5_shut 25 = .ok (.iconst 0, 1) := by decide +kernel
theorem dX5_shut_26 : decode cX5_shut 26 = .ok (.invokevirtual 82, 3) := by decide +kernel
theorem dX5_shut_29 : decode cX5_shut 29 = .ok (.iload_n 2, 1) := by decide +kernel
theorem dX5_shut_30 : decode cX5_shut 30 = .ok (.ireturn, 1) := by decide +kernel
set_option maxRecDepth 20000 in
theorem ggX5_turnsOf_X5_needGate : GoodIn wsX5_turnsOf wsX5_needGate := goodIn_ca (goodIn_r _ [6, 7, 8, 1, 9, 10, 11, 12, 13, 14, 21, 22, 23, 24, 25, 26, 27, 28, 29, 30, 31, 32, 33, 34] (by decide +kernel) (by decide +kernel)) (goodIn_sub (fun _ h => List.mem_cons_of_mem _ (List.mem_append_right _ h)) (by decide +kernel))
set_option maxRecDepth 20000 in
theorem gX5_turnsOf_X5_needGate : GoodIn wsX5_turnsOf (wsV RX5 71 RX5 yX5_needGate wsX5_needGate) := goodIn_app (goodIn_of _ (by decide +kernel)) ggX5_turnsOf_X5_needGate
set_option maxRecDepth 20000 in
theorem ggX5_turnsOf_X1_turnsAt : GoodIn wsX5_turnsOf wsX1_turnsAt := goodIn_r _ [19, 20, 35, 36] (by decide +kernel) (by decide +kernel)
set_option maxRecDepth 20000 in
theorem gX5_turnsOf_X1_turnsAt : GoodIn wsX5_turnsOf (wsV RX5 89 RX1 yX1_turnsAt wsX1_turnsAt) := goodIn_app (goodIn_of _ (by decide +kernel)) ggX5_turnsOf_X1_turnsAt
theorem dX5_turnsOf_0 : decode cX5_turnsOf 0 = .ok (.aload_n 0, 1) := by decide +kernel
theorem dX5_turnsOf_1 : decode cX5_turnsOf 1 = .ok (.iload_n 1, 1) := by decide +kernel
theorem dX5_turnsOf_2 : decode cX5_turnsOf 2 = .ok (.invokevirtual 71, 3) := by decide +kernel
theorem dX5_turnsOf_5 : decode cX5_turnsOf 5 = .ok (.aload_n 0, 1) := by decide +kernel
theorem dX5_turnsOf_6 : decode cX5_turnsOf 6 = .ok (.getfield 14, 3) := by decide +kernel
theorem dX5_turnsOf_9 : decode cX5_turnsOf 9 = .ok (.getfield 53, 3) := by decide +kernel
theorem dX5_turnsOf_12 : decode cX5_turnsOf 12 = .ok (.iload_n 1, 1) := by decide +kernel
theorem dX5_turnsOf_13 : decode cX5_turnsOf 13 = .ok (.invokevirtual 89, 3) := by decide +kernel
theorem dX5_turnsOf_16 : decode cX5_turnsOf 16 = .ok (.ireturn, 1) := by decide +kernel
set_option maxRecDepth 20000 in
theorem ggX5_wind_X5_needGate : GoodIn wsX5_wind wsX5_needGate := goodIn_ca (goodIn_r _ [10, 11, 12, 5, 13, 14, 15, 16, 17, 18, 38, 39, 40, 41, 42, 43, 44, 45, 46, 47, 48, 49, 50, 51] (by decide +kernel) (by decide +kernel)) (goodIn_sub (fun _ h => List.mem_cons_of_mem _ (List.mem_append_right _ h)) (by decide +kernel))
set_option maxRecDepth 20000 in
theorem gX5_wind_X5_needGate : GoodIn wsX5_wind (wsV RX5 71 RX5 yX5_needGate wsX5_needGate) := goodIn_app (goodIn_of _ (by decide +kernel)) ggX5_wind_X5_needGate
set_option maxRecDepth 20000 in
theorem ggX5_wind_X1_isOpenBeside : GoodIn wsX5_wind wsX1_isOpenBeside := goodIn_r _ [23, 24, 25, 26, 22, 27, 28, 52, 53] (by decide +kernel) (by decide +kernel)
set_option maxRecDepth 20000 in
theorem gX5_wind_X1_isOpenBeside : GoodIn wsX5_wind (wsV RX5 94 RX1 yX1_isOpenBeside wsX1_isOpenBeside) := goodIn_app (goodIn_of _ (by decide +kernel)) ggX5_wind_X1_isOpenBeside
set_option maxRecDepth 20000 in
theorem ggX5_wind_X1_turnsAt : GoodIn wsX5_wind wsX1_turnsAt := goodIn_r _ [32, 33, 52, 53] (by decide +kernel) (by decide +kernel)
set_option maxRecDepth 20000 in
theorem gX5_wind_X1_turnsAt : GoodIn wsX5_wind (wsV RX5 89 RX1 yX1_turnsAt wsX1_turnsAt) := goodIn_app (goodIn_of _ (by decide +kernel)) ggX5_wind_X1_turnsAt
set_option maxRecDepth 20000 in
theorem ggX5_wind_X1_setTurns : GoodIn wsX5_wind wsX1_setTurns := goodIn_r _ [37, 33, 52, 53] (by decide +kernel) (by decide +kernel)
set_option maxRecDepth 20000 in
theorem gX5_wind_X1_setTurns : GoodIn wsX5_wind (wsV RX5 99 RX1 yX1_setTurns wsX1_setTurns) := goodIn_app (goodIn_of _ (by decide +kernel)) ggX5_wind_X1_setTurns
theorem dX5_wind_0 : decode cX5_wind 0 = .ok (.aload_n 0, 1) := by decide +kernel
theorem dX5_wind_1 : decode cX5_wind 1 = .ok (.iload_n 1, 1) := by decide +kernel
theorem dX5_wind_2 : decode cX5_wind 2 = .ok (.invokevirtual 71, 3) := by decide +kernel
theorem dX5_wind_5 : decode cX5_wind 5 = .ok (.iload_n 2, 1) := by decide +kernel
theorem dX5_wind_6 : decode cX5_wind 6 = .ok (.ifCond .lt 8, 3) := by decide +kernel
theorem dX5_wind_9 : decode cX5_wind 9 = .ok (.iload_n 2, 1) := by decide +kernel
theorem dX5_wind_10 : decode cX5_wind 10 = .ok (.iconst 5, 1) := by decide +kernel
theorem dX5_wind_11 : decode cX5_wind 11 = .ok (.if_icmp .le 13, 3) := by decide +kernel
theorem dX5_wind_14 : decode cX5_wind 14 = .ok (.new 46, 3) := by decide +kernel
theorem dX5_wind_17 : decode cX5_wind 17 = .ok (.dup, 1) := by decide +kernel
theorem dX5_wind_18 : decode cX5_wind 18 = .ok (.ldc 92, 2) := by decide +kernel
theorem dX5_wind_20 : decode cX5_wind 20 = .ok (.invokespecial 50, 3) := by decide +kernel
theorem dX5_wind_23 : decode cX5_wind 23 = .ok (.athrow, 1) := by decide +kernel
theorem dX5_wind_24 : decode cX5_wind 24 = .ok (.iload_n 2, 1) := by decide +kernel
theorem dX5_wind_25 : decode cX5_wind 25 = .ok (.ifCond .le 27, 3) := by decide +kernel
theorem dX5_wind_28 : decode cX5_wind 28 = .ok (.aload_n 0, 1) := by decide +kernel
theorem dX5_wind_29 : decode cX5_wind 29 = .ok (.getfield 14, 3) := by decide +kernel
theorem dX5_wind_32 : decode cX5_wind 32 = .ok (.getfield 53, 3) := by decide +kernel
theorem dX5_wind_35 : decode cX5_wind 35 = .ok (.iload_n 1, 1) := by decide +kernel
theorem dX5_wind_36 : decode cX5_wind 36 = .ok (.invokevirtual 94, 3) := by decide +kernel
theorem dX5_wind_39 : decode cX5_wind 39 = .ok (.ifCond .eq 13, 3) := by decide +kernel
theorem dX5_wind_42 : decode cX5_wind 42 = .ok (.new 63, 3) := by decide +kernel
theorem dX5_wind_45 : decode cX5_wind 45 = .ok (.dup, 1) := by decide +kernel
theorem dX5_wind_46 : decode cX5_wind 46 = .ok (.ldc 97, 2) := by decide +kernel
theorem dX5_wind_48 : decode cX5_wind 48 = .ok (.invokespecial 67, 3) := by decide +kernel
theorem dX5_wind_51 : decode cX5_wind 51 = .ok (.athrow, 1) := by decide +kernel
theorem dX5_wind_52 : decode cX5_wind 52 = .ok (.aload_n 0, 1) := by decide +kernel
theorem dX5_wind_53 : decode cX5_wind 53 = .ok (.getfield 14, 3) := by decide +kernel
theorem dX5_wind_56 : decode cX5_wind 56 = .ok (.getfield 53, 3) := by decide +kernel
theorem dX5_wind_59 : decode cX5_wind 59 = .ok (.iload_n 1, 1) := by decide +kernel
theorem dX5_wind_60 : decode cX5_wind 60 = .ok (.invokevirtual 89, 3) := by decide +kernel
theorem dX5_wind_63 : decode cX5_wind 63 = .ok (.istore_n 3, 1) := by decide +kernel
theorem dX5_wind_64 : decode cX5_wind 64 = .ok (.aload_n 0, 1) := by decide +kernel
theorem dX5_wind_65 : decode cX5_wind 65 = .ok (.getfield 14, 3) := by decide +kernel
theorem dX5_wind_68 : decode cX5_wind 68 = .ok (.getfield 53, 3) := by decide +kernel
theorem dX5_wind_71 : decode cX5_wind 71 = .ok (.iload_n 1, 1) := by decide +kernel
theorem dX5_wind_72 : decode cX5_wind 72 = .ok (.iload_n 2, 1) := by decide +kernel
theorem dX5_wind_73 : decode cX5_wind 73 = .ok (.invokevirtual 99, 3) := by decide +kernel
theorem dX5_wind_76 : decode cX5_wind 76 = .ok (.iload_n 3, 1) := by decide +kernel
theorem dX5_wind_77 : decode cX5_wind 77 = .ok (.ireturn, 1) := by decide +kernel
set_option maxRecDepth 20000 in
theorem ggX5_pass_X2_passMinute : GoodIn wsX5_pass wsX2_passMinute := goodIn_r _ [8, 9, 10, 11, 12, 13, 14, 15, 16, 17, 18, 19, 20, 21, 22, 23, 24, 25, 26, 27, 28, 29, 30, 31, 32, 33, 34, 35, 36, 37, 38, 39, 40, 41, 42, 43, 44, 45, 46, 47, 48, 49, 50, 51, 54, 55, 56, 57, 58, 59, 60, 61, 62, 63, 64, 65, 66, 67] (by decide +kernel) (by decide +kernel)
set_option maxRecDepth 20000 in
theorem gX5_pass_X2_passMinute : GoodIn wsX5_pass (wsV RX5 105 RX2 yX2_passMinute wsX2_passMinute) := goodIn_app (goodIn_of _ (by decide +kernel)) ggX5_pass_X2_passMinute
theorem dX5_pass_0 : decode cX5_pass 0 = .ok (.iload_n 1, 1) := by decide +kernel
theorem dX5_pass_1 : decode cX5_pass 1 = .ok (.iconst 1, 1) := by decide +kernel
theorem dX5_pass_2 : decode cX5_pass 2 = .ok (.if_icmp .lt 9, 3) := by decide +kernel
theorem dX5_pass_5 : decode cX5_pass 5 = .ok (.iload_n 1, 1) := by decide +kernel
theorem dX5_pass_6 : decode cX5_pass 6 = .ok (.bipush 60, 2) := by decide +kernel
theorem dX5_pass_8 : decode cX5_pass 8 = .ok (.if_icmp .le 13, 3) := by decide +kernel
theorem dX5_pass_11 : decode cX5_pass 11 = .ok (.new 46, 3) := by decide +kernel
theorem dX5_pass_14 : decode cX5_pass 14 = .ok (.dup, 1) := by decide +kernel
theorem dX5_pass_15 : decode cX5_pass 15 = .ok (.ldc 103, 2) := by decide +kernel
theorem dX5_pass_17 : decode cX5_pass 17 = .ok (.invokespecial 50, 3) := by decide +kernel
theorem dX5_pass_20 : decode cX5_pass 20 = .ok (.athrow, 1) := by decide +kernel
theorem dX5_pass_21 : decode cX5_pass 21 = .ok (.iconst 0, 1) := by decide +kernel
theorem dX5_pass_22 : decode cX5_pass 22 = .ok (.istore_n 2, 1) := by decide +kernel
theorem dX5_pass_23 : decode cX5_pass 23 = .ok (.iconst 0, 1) := by decide +kernel
theorem dX5_pass_24 : decode cX5_pass 24 = .ok (.istore_n 3, 1) := by decide +kernel
theorem dX5_pass_25 : decode cX5_pass 25 = .ok (.iload_n 3, 1) := by decide +kernel
theorem dX5_pass_26 : decode cX5_pass 26 = .ok (.iload_n 1, 1) := by decide +kernel
theorem dX5_pass_27 : decode cX5_pass 27 = .ok (.if_icmp .ge 19, 3) := by decide +kernel
theorem dX5_pass_30 : decode cX5_pass 30 = .ok (.iload_n 2, 1) := by decide +kernel
theorem dX5_pass_31 : decode cX5_pass 31 = .ok (.aload_n 0, 1) := by decide +kernel
theorem dX5_pass_32 : decode cX5_pass 32 = .ok (.getfield 14, 3) := by decide +kernel
theorem dX5_pass_35 : decode cX5_pass 35 = .ok (.invokevirtual 105, 3) := by decide +kernel
theorem dX5_pass_38 : decode cX5_pass 38 = .ok (.iadd, 1) := by decide +kernel
theorem dX5_pass_39 : decode cX5_pass 39 = .ok (.istore_n 2, 1) := by decide +kernel
theorem dX5_pass_40 : decode cX5_pass 40 = .ok (.iinc 3 1, 3) := by decide +kernel
theorem dX5_pass_43 : decode cX5_pass 43 = .ok (.goto (-18), 3) := by decide +kernel
theorem dX5_pass_46 : decode cX5_pass 46 = .ok (.iload_n 2, 1) := by decide +kernel
theorem dX5_pass_47 : decode cX5_pass 47 = .ok (.ireturn, 1) := by decide +kernel
theorem dX5_clock_0 : decode cX5_clock 0 = .ok (.aload_n 0, 1) := by decide +kernel
theorem dX5_clock_1 : decode cX5_clock 1 = .ok (.getfield 14, 3) := by decide +kernel
theorem dX5_clock_4 : decode cX5_clock 4 = .ok (.getfield 21, 3) := by decide +kernel
theorem dX5_clock_7 : decode cX5_clock 7 = .ok (.getfield 108, 3) := by decide +kernel
theorem dX5_clock_10 : decode cX5_clock 10 = .ok (.ireturn, 1) := by decide +kernel
set_option maxRecDepth 20000 in
theorem ggX5_addBoat_X4_depth : GoodIn wsX5_addBoat wsX4_depth := goodIn_r _ [10, 11, 12, 13, 14, 15, 9, 16, 17, 18, 19, 20, 21, 22, 52, 53, 54, 55, 56, 57, 58, 59] (by decide +kernel) (by decide +kernel)
set_option maxRecDepth 20000 in
theorem gX5_addBoat_X4_depth : GoodIn wsX5_addBoat (wsV RX5 39 RX4 yX4_depth wsX4_depth) := goodIn_app (goodIn_of _ (by decide +kernel)) ggX5_addBoat_X4_depth
set_option maxRecDepth 20000 in
theorem ggX5_addBoat_X2_poundPlace : GoodIn wsX5_addBoat wsX2_poundPlace := goodIn_r _ [27, 28, 29, 30, 31, 9, 32, 11, 44, 45, 46, 47, 52, 53, 54, 55, 56, 57, 58, 59] (by decide +kernel) (by decide +kernel)
set_option maxRecDepth 20000 in
theorem gX5_addBoat_X2_poundPlace : GoodIn wsX5_addBoat (wsV RX5 127 RX2 yX2_poundPlace wsX2_poundPlace) := goodIn_app (goodIn_of _ (by decide +kernel)) ggX5_addBoat_X2_poundPlace
set_option maxRecDepth 20000 in
theorem ggX5_addBoat_X0_add : GoodIn wsX5_addBoat wsX0_add := goodIn_r _ [37, 38, 39, 40, 41, 48, 49, 50, 51] (by decide +kernel) (by decide +kernel)
set_option maxRecDepth 20000 in
theorem gX5_addBoat_X0_add : GoodIn wsX5_addBoat (wsV RX5 130 RX0 yX0_add wsX0_add) := goodIn_app (goodIn_of _ (by decide +kernel)) ggX5_addBoat_X0_add
theorem dX5_addBoat_0 : decode cX5_addBoat 0 = .ok (.iload_n 1, 1) := by decide +kernel
theorem dX5_addBoat_1 : decode cX5_addBoat 1 = .ok (.iconst 5, 1) := by decide +kernel
theorem dX5_addBoat_2 : decode cX5_addBoat 2 = .ok (.if_icmp .lt 9, 3) := by decide +kernel
theorem dX5_addBoat_5 : decode cX5_addBoat 5 = .ok (.iload_n 1, 1) := by decide +kernel
theorem dX5_addBoat_6 : decode cX5_addBoat 6 = .ok (.bipush 60, 2) := by decide +kernel
theorem dX5_addBoat_8 : decode cX5_addBoat 8 = .ok (.if_icmp .le 13, 3) := by decide +kernel
theorem dX5_addBoat_11 : decode cX5_addBoat 11 = .ok (.new 46, 3) := by decide +kernel
theorem dX5_addBoat_14 : decode cX5_addBoat 14 = .ok (.dup, 1) := by decide +kernel
theorem dX5_addBoat_15 : decode cX5_addBoat 15 = .ok (.ldc 111, 2) := by decide +kernel
theorem dX5_addBoat_17 : decode cX5_addBoat 17 = .ok (.invokespecial 50, 3) := by decide +kernel
theorem dX5_addBoat_20 : decode cX5_addBoat 20 = .ok (.athrow, 1) := by decide +kernel
theorem dX5_addBoat_21 : decode cX5_addBoat 21 = .ok (.iload_n 2, 1) := by decide +kernel
theorem dX5_addBoat_22 : decode cX5_addBoat 22 = .ok (.iconst 1, 1) := by decide +kernel
theorem dX5_addBoat_23 : decode cX5_addBoat 23 = .ok (.if_icmp .lt 9, 3) := by decide +kernel
theorem dX5_addBoat_26 : decode cX5_addBoat 26 = .ok (.iload_n 2, 1) := by decide +kernel
theorem dX5_addBoat_27 : decode cX5_addBoat 27 = .ok (.bipush 19, 2) := by decide +kernel
theorem dX5_addBoat_29 : decode cX5_addBoat 29 = .ok (.if_icmp .le 13, 3) := by decide +kernel
theorem dX5_addBoat_32 : decode cX5_addBoat 32 = .ok (.new 46, 3) := by decide +kernel
theorem dX5_addBoat_35 : decode cX5_addBoat 35 = .ok (.dup, 1) := by decide +kernel
theorem dX5_addBoat_36 : decode cX5_addBoat 36 = .ok (.ldc 113, 2) := by decide +kernel
theorem dX5_addBoat_38 : decode cX5_addBoat 38 = .ok (.invokespecial 50, 3) := by decide +kernel
theorem dX5_addBoat_41 : decode cX5_addBoat 41 = .ok (.athrow, 1) := by decide +kernel
theorem dX5_addBoat_42 : decode cX5_addBoat 42 = .ok (.aload_n 0, 1) := by decide +kernel
theorem dX5_addBoat_43 : decode cX5_addBoat 43 = .ok (.getfield 14, 3) := by decide +kernel
theorem dX5_addBoat_46 : decode cX5_addBoat 46 = .ok (.getfield 115, 3) := by decide +kernel
theorem dX5_addBoat_49 : decode cX5_addBoat 49 = .ok (.getfield 119, 3) := by decide +kernel
theorem dX5_addBoat_52 : decode cX5_addBoat 52 = .ok (.bipush 10, 2) := by decide +kernel
theorem dX5_addBoat_54 : decode cX5_addBoat 54 = .ok (.if_icmp .lt 13, 3) := by decide +kernel
theorem dX5_addBoat_57 : decode cX5_addBoat 57 = .ok (.new 63, 3) := by decide +kernel
theorem dX5_addBoat_60 : decode cX5_addBoat 60 = .ok (.dup, 1) := by decide +kernel
theorem dX5_addBoat_61 : decode cX5_addBoat 61 = .ok (.ldc 123, 2) := by decide +kernel
theorem dX5_addBoat_63 : decode cX5_addBoat 63 = .ok (.invokespecial 67, 3) := by decide +kernel
theorem dX5_addBoat_66 : decode cX5_addBoat 66 = .ok (.athrow, 1) := by decide +kernel
theorem dX5_addBoat_67 : decode cX5_addBoat 67 = .ok (.iload_n 3, 1) := by decide +kernel
theorem dX5_addBoat_68 : decode cX5_addBoat 68 = .ok (.ifCond .eq 27, 3) := by decide +kernel
theorem dX5_addBoat_71 : decode cX5_addBoat 71 = .ok (.aload_n 0, 1) := by decide +kernel
theorem dX5_addBoat_72 : decode cX5_addBoat 72 = .ok (.getfield 14, 3) := by decide +kernel
theorem dX5_addBoat_75 : decode cX5_addBoat 75 = .ok (.getfield 21, 3) := by decide +kernel
theorem dX5_addBoat_78 : decode cX5_addBoat 78 = .ok (.invokevirtual 39, 3) := by decide +kernel
theorem dX5_addBoat_81 : decode cX5_addBoat 81 = .ok (.iload_n 2, 1) := by decide +kernel
theorem dX5_addBoat_82 : decode cX5_addBoat 82 = .ok (.if_icmp .ge 13, 3) := by decide +kernel
theorem dX5_addBoat_85 : decode cX5_addBoat 85 = .ok (.new 63, 3) := by decide +kernel
theorem dX5_addBoat_88 : decode cX5_addBoat 88 = .ok (.dup, 1) := by decide +kernel
theorem dX5_addBoat_89 : decode cX5_addBoat 89 = .ok (.ldc 125, 2) := by decide +kernel
theorem dX5_addBoat_91 : decode cX5_addBoat 91 = .ok (.invokespecial 67, 3) := by decide +kernel
theorem dX5_addBoat_94 : decode cX5_addBoat 94 = .ok (.athrow, 1) := by decide +kernel
theorem dX5_addBoat_95 : decode cX5_addBoat 95 = .ok (.aload_n 0, 1) := by decide +kernel
theorem dX5_addBoat_96 : decode cX5_addBoat 96 = .ok (.getfield 14, 3) := by decide +kernel
theorem dX5_addBoat_99 : decode cX5_addBoat 99 = .ok (.getfield 115, 3) := by decide +kernel
theorem dX5_addBoat_102 : decode cX5_addBoat 102 = .ok (.iload_n 1, 1) := by decide +kernel
theorem dX5_addBoat_103 : decode cX5_addBoat 103 = .ok (.iload_n 2, 1) := by decide +kernel
theorem dX5_addBoat_104 : decode cX5_addBoat 104 = .ok (.iload_n 3, 1) := by decide +kernel
theorem dX5_addBoat_105 : decode cX5_addBoat 105 = .ok (.ifCond .eq 13, 3) := by decide +kernel
theorem dX5_addBoat_108 : decode cX5_addBoat 108 = .ok (.aload_n 0, 1) := by decide +kernel
theorem dX5_addBoat_109 : decode cX5_addBoat 109 = .ok (.getfield 14, 3) := by decide +kernel
theorem dX5_addBoat_112 : decode cX5_addBoat 112 = .ok (.invokevirtual 127, 3) := by decide +kernel
theorem dX5_addBoat_115 : decode cX5_addBoat 115 = .ok (.goto 4, 3) := by decide +kernel
theorem dX5_addBoat_118 : decode cX5_addBoat 118 = .ok (.iconst 0, 1) := by decide +kernel
theorem dX5_addBoat_119 : decode cX5_addBoat 119 = .ok (.invokevirtual 130, 3) := by decide +kernel
theorem dX5_addBoat_122 : decode cX5_addBoat 122 = .ok (.ireturn, 1) := by decide +kernel
theorem dX5_boatCount_0 : decode cX5_boatCount 0 = .ok (.aload_n 0, 1) := by decide +kernel
theorem dX5_boatCount_1 : decode cX5_boatCount 1 = .ok (.getfield 14, 3) := by decide +kernel
theorem dX5_boatCount_4 : decode cX5_boatCount 4 = .ok (.getfield 115, 3) := by decide +kernel
theorem dX5_boatCount_7 : decode cX5_boatCount 7 = .ok (.getfield 119, 3) := by decide +kernel
theorem dX5_boatCount_10 : decode cX5_boatCount 10 = .ok (.ireturn, 1) := by decide +kernel
set_option maxRecDepth 20000 in
theorem ggX5_placeOf_X5_needBoat : GoodIn wsX5_placeOf wsX5_needBoat := goodIn_ca (goodIn_r _ [6, 7, 8, 1, 15, 16, 17, 18, 19, 20, 21, 22, 23, 24] (by decide +kernel) (by decide +kernel)) (goodIn_sub (fun _ h => List.mem_cons_of_mem _ (List.mem_append_right _ h)) (by decide +kernel))
set_option maxRecDepth 20000 in
theorem gX5_placeOf_X5_needBoat : GoodIn wsX5_placeOf (wsV RX5 134 RX5 yX5_needBoat wsX5_needBoat) := goodIn_app (goodIn_of _ (by decide +kernel)) ggX5_placeOf_X5_needBoat
set_option maxRecDepth 20000 in
theorem ggX5_placeOf_X0_placeAt : GoodIn wsX5_placeOf wsX0_placeAt := goodIn_r _ [13, 14, 21, 22, 23, 24] (by decide +kernel) (by decide +kernel)
set_option maxRecDepth 20000 in
theorem gX5_placeOf_X0_placeAt : GoodIn wsX5_placeOf (wsV RX5 137 RX0 yX0_placeAt wsX0_placeAt) := goodIn_app (goodIn_of _ (by decide +kernel)) ggX5_placeOf_X0_placeAt
theorem dX5_placeOf_0 : decode cX5_placeOf 0 = .ok (.aload_n 0, 1) := by decide +kernel
theorem dX5_placeOf_1 : decode cX5_placeOf 1 = .ok (.iload_n 1, 1) := by decide +kernel
theorem dX5_placeOf_2 : decode cX5_placeOf 2 = .ok (.invokevirtual 134, 3) := by decide +kernel
theorem dX5_placeOf_5 : decode cX5_placeOf 5 = .ok (.aload_n 0, 1) := by decide +kernel
theorem dX5_placeOf_6 : decode cX5_placeOf 6 = .ok (.getfield 14, 3) := by decide +kernel
theorem dX5_placeOf_9 : decode cX5_placeOf 9 = .ok (.getfield 115, 3) := by decide +kernel
theorem dX5_placeOf_12 : decode cX5_placeOf 12 = .ok (.iload_n 1, 1) := by decide +kernel
theorem dX5_placeOf_13 : decode cX5_placeOf 13 = .ok (.invokevirtual 137, 3) := by decide +kernel
theorem dX5_placeOf_16 : decode cX5_placeOf 16 = .ok (.ireturn, 1) := by decide +kernel
set_option maxRecDepth 20000 in
theorem ggX5_boatsAt_X2_poundPlace : GoodIn wsX5_boatsAt wsX2_poundPlace := goodIn_r _ [8, 9, 10, 11, 12, 13, 14, 15, 29, 30, 31, 32, 33, 34, 35, 36, 37, 38, 39, 40] (by decide +kernel) (by decide +kernel)
set_option maxRecDepth 20000 in
theorem gX5_boatsAt_X2_poundPlace : GoodIn wsX5_boatsAt (wsV RX5 127 RX2 yX2_poundPlace wsX2_poundPlace) := goodIn_app (goodIn_of _ (by decide +kernel)) ggX5_boatsAt_X2_poundPlace
set_option maxRecDepth 20000 in
theorem ggX5_boatsAt_X0_boatsIn : GoodIn wsX5_boatsAt wsX0_boatsIn := goodIn_r _ [20, 21, 22, 23, 24, 19, 25, 26, 41, 42, 43, 44] (by decide +kernel) (by decide +kernel)
set_option maxRecDepth 20000 in
theorem gX5_boatsAt_X0_boatsIn : GoodIn wsX5_boatsAt (wsV RX5 145 RX0 yX0_boatsIn wsX0_boatsIn) := goodIn_app (goodIn_of _ (by decide +kernel)) ggX5_boatsAt_X0_boatsIn
theorem dX5_boatsAt_0 : decode cX5_boatsAt 0 = .ok (.iload_n 1, 1) := by decide +kernel
theorem dX5_boatsAt_1 : decode cX5_boatsAt 1 = .ok (.ifCond .lt 14, 3) := by decide +kernel
theorem dX5_boatsAt_4 : decode cX5_boatsAt 4 = .ok (.iload_n 1, 1) := by decide +kernel
theorem dX5_boatsAt_5 : decode cX5_boatsAt 5 = .ok (.aload_n 0, 1) := by decide +kernel
theorem dX5_boatsAt_6 : decode cX5_boatsAt 6 = .ok (.getfield 14, 3) := by decide +kernel
theorem dX5_boatsAt_9 : decode cX5_boatsAt 9 = .ok (.invokevirtual 127, 3) := by decide +kernel
theorem dX5_boatsAt_12 : decode cX5_boatsAt 12 = .ok (.if_icmp .le 13, 3) := by decide +kernel
theorem dX5_boatsAt_15 : decode cX5_boatsAt 15 = .ok (.new 140, 3) := by decide +kernel
theorem dX5_boatsAt_18 : decode cX5_boatsAt 18 = .ok (.dup, 1) := by decide +kernel
theorem dX5_boatsAt_19 : decode cX5_boatsAt 19 = .ok (.ldc 142, 2) := by decide +kernel
theorem dX5_boatsAt_21 : decode cX5_boatsAt 21 = .ok (.invokespecial 144, 3) := by decide +kernel
theorem dX5_boatsAt_24 : decode cX5_boatsAt 24 = .ok (.athrow, 1) := by decide +kernel
theorem dX5_boatsAt_25 : decode cX5_boatsAt 25 = .ok (.aload_n 0, 1) := by decide +kernel
theorem dX5_boatsAt_26 : decode cX5_boatsAt 26 = .ok (.getfield 14, 3) := by decide +kernel
theorem dX5_boatsAt_29 : decode cX5_boatsAt 29 = .ok (.getfield 115, 3) := by decide +kernel
theorem dX5_boatsAt_32 : decode cX5_boatsAt 32 = .ok (.iload_n 1, 1) := by decide +kernel
theorem dX5_boatsAt_33 : decode cX5_boatsAt 33 = .ok (.invokevirtual 145, 3) := by decide +kernel
theorem dX5_boatsAt_36 : decode cX5_boatsAt 36 = .ok (.ireturn, 1) := by decide +kernel
set_option maxRecDepth 20000 in
theorem ggX5_freeLength_X5_needChamber : GoodIn wsX5_freeLength wsX5_needChamber := goodIn_ca (goodIn_r _ [6, 7, 8, 1, 9, 10, 11, 12, 13, 14, 31, 32, 33, 34, 35, 36, 37, 38, 39, 40, 41, 42, 43, 44] (by decide +kernel) (by decide +kernel)) (goodIn_sub (fun _ h => List.mem_cons_of_mem _ (List.mem_append_right _ h)) (by decide +kernel))
set_option maxRecDepth 20000 in
theorem gX5_freeLength_X5_needChamber : GoodIn wsX5_freeLength (wsV RX5 31 RX5 yX5_needChamber wsX5_needChamber) := goodIn_app (goodIn_of _ (by decide +kernel)) ggX5_freeLength_X5_needChamber
set_option maxRecDepth 20000 in
theorem ggX5_freeLength_X0_lengthIn : GoodIn wsX5_freeLength wsX0_lengthIn := goodIn_r _ [19, 20, 21, 22, 23, 18, 24, 25, 26, 27, 28, 29, 30, 45, 46, 47, 48] (by decide +kernel) (by decide +kernel)
set_option maxRecDepth 20000 in
theorem gX5_freeLength_X0_lengthIn : GoodIn wsX5_freeLength (wsV RX5 148 RX0 yX0_lengthIn wsX0_lengthIn) := goodIn_app (goodIn_of _ (by decide +kernel)) ggX5_freeLength_X0_lengthIn
theorem dX5_freeLength_0 : decode cX5_freeLength 0 = .ok (.aload_n 0, 1) := by decide +kernel
theorem dX5_freeLength_1 : decode cX5_freeLength 1 = .ok (.iload_n 1, 1) := by decide +kernel
theorem dX5_freeLength_2 : decode cX5_freeLength 2 = .ok (.invokevirtual 31, 3) := by decide +kernel
theorem dX5_freeLength_5 : decode cX5_freeLength 5 = .ok (.bipush 60, 2) := by decide +kernel
theorem dX5_freeLength_7 : decode cX5_freeLength 7 = .ok (.aload_n 0, 1) := by decide +kernel
theorem dX5_freeLength_8 : decode cX5_freeLength 8 = .ok (.getfield 14, 3) := by decide +kernel
theorem dX5_freeLength_11 : decode cX5_freeLength 11 = .ok (.getfield 115, 3) := by decide +kernel
theorem dX5_freeLength_14 : decode cX5_freeLength 14 = .ok (.iload_n 1, 1) := by decide +kernel
theorem dX5_freeLength_15 : decode cX5_freeLength 15 = .ok (.iconst 1, 1) := by decide +kernel
theorem dX5_freeLength_16 : decode cX5_freeLength 16 = .ok (.iadd, 1) := by decide +kernel
theorem dX5_freeLength_17 : decode cX5_freeLength 17 = .ok (.invokevirtual 148, 3) := by decide +kernel
theorem dX5_freeLength_20 : decode cX5_freeLength 20 = .ok (.isub, 1) := by decide +kernel
theorem dX5_freeLength_21 : decode cX5_freeLength 21 = .ok (.ireturn, 1) := by decide +kernel
set_option maxRecDepth 20000 in
theorem ggX5_moveObstacle_X5_needBoat : GoodIn wsX5_moveObstacle wsX5_needBoat := goodIn_ca (goodIn_r _ [6, 7, 8, 1, 87, 88, 89, 90, 91, 92, 93, 94, 95, 96] (by decide +kernel) (by decide +kernel)) (goodIn_sub (fun _ h => List.mem_cons_of_mem _ (List.mem_append_right _ h)) (by decide +kernel))
set_option maxRecDepth 20000 in
theorem gX5_moveObstacle_X5_needBoat : GoodIn wsX5_moveObstacle (wsV RX5 134 RX5 yX5_needBoat wsX5_needBoat) := goodIn_app (goodIn_of _ (by decide +kernel)) ggX5_moveObstacle_X5_needBoat
set_option maxRecDepth 20000 in
theorem ggX5_moveObstacle_X2_movingObstacle : GoodIn wsX5_moveObstacle wsX2_movingObstacle := goodIn_r _ [13, 14, 15, 16, 17, 12, 18, 19, 20, 21, 22, 23, 24, 25, 26, 27, 28, 29, 30, 31, 32, 33, 34, 35, 36, 37, 38, 39, 40, 41, 42, 43, 44, 45, 46, 47, 48, 49, 50, 51, 52, 53, 54, 55, 56, 57, 58, 59, 60, 61, 62, 63, 64, 65, 66, 67, 68, 69, 70, 71, 72, 73, 74, 75, 76, 77, 78, 79, 80, 81, 82, 83, 84, 85, 86, 89, 90, 91, 92, 93, 94, 95, 96, 97, 98, 99, 100, 101, 102, 103, 104, 105, 106] (by decide +kernel) (by decide +kernel)
set_option maxRecDepth 20000 in
theorem gX5_moveObstacle_X2_movingObstacle : GoodIn wsX5_moveObstacle (wsV RX5 151 RX2 yX2_movingObstacle wsX2_movingObstacle) := goodIn_app (goodIn_of _ (by decide +kernel)) ggX5_moveObstacle_X2_movingObstacle
theorem dX5_moveObstacle_0 : decode cX5_moveObstacle 0 = .ok (.aload_n 0, 1) := by decide +kernel
theorem dX5_moveObstacle_1 : decode cX5_moveObstacle 1 = .ok (.iload_n 1, 1) := by decide +kernel
theorem dX5_moveObstacle_2 : decode cX5_moveObstacle 2 = .ok (.invokevirtual 134, 3) := by decide +kernel
theorem dX5_moveObstacle_5 : decode cX5_moveObstacle 5 = .ok (.aload_n 0, 1) := by decide +kernel
theorem dX5_moveObstacle_6 : decode cX5_moveObstacle 6 = .ok (.getfield 14, 3) := by decide +kernel
theorem dX5_moveObstacle_9 : decode cX5_moveObstacle 9 = .ok (.iload_n 1, 1) := by decide +kernel
theorem dX5_moveObstacle_10 : decode cX5_moveObstacle 10 = .ok (.iload_n 2, 1) := by decide +kernel
theorem dX5_moveObstacle_11 : decode cX5_moveObstacle 11 = .ok (.invokevirtual 151, 3) := by decide +kernel
theorem dX5_moveObstacle_14 : decode cX5_moveObstacle 14 = .ok (.ireturn, 1) := by decide +kernel
set_option maxRecDepth 20000 in
theorem ggX5_move_X5_needBoat : GoodIn wsX5_move wsX5_needBoat := goodIn_ca (goodIn_r _ [8, 9, 10, 3, 95, 96, 97, 98, 99, 100, 101, 102, 103, 104] (by decide +kernel) (by decide +kernel)) (goodIn_sub (fun _ h => List.mem_cons_of_mem _ (List.mem_append_right _ h)) (by decide +kernel))
set_option maxRecDepth 20000 in
theorem gX5_move_X5_needBoat : GoodIn wsX5_move (wsV RX5 134 RX5 yX5_needBoat wsX5_needBoat) := goodIn_app (goodIn_of _ (by decide +kernel)) ggX5_move_X5_needBoat
set_option maxRecDepth 20000 in
theorem ggX5_move_X2_movingObstacle : GoodIn wsX5_move wsX2_movingObstacle := goodIn_r _ [15, 16, 17, 18, 19, 14, 20, 21, 22, 23, 24, 25, 26, 27, 28, 29, 30, 31, 32, 33, 34, 35, 36, 37, 38, 39, 40, 41, 42, 43, 44, 45, 46, 47, 48, 49, 50, 51, 52, 53, 54, 55, 56, 57, 58, 59, 60, 61, 62, 63, 64, 65, 66, 67, 68, 69, 70, 71, 72, 73, 74, 75, 76, 77, 78, 79, 80, 81, 82, 83, 84, 85, 86, 87, 88, 97, 98, 99, 100, 101, 102, 103, 104, 105, 106, 107, 108, 109, 110, 111, 112, 113, 114] (by decide +kernel) (by decide +kernel)
set_option maxRecDepth 20000 in
theorem gX5_move_X2_movingObstacle : GoodIn wsX5_move (wsV RX5 151 RX2 yX2_movingObstacle wsX2_movingObstacle) := goodIn_app (goodIn_of _ (by decide +kernel)) ggX5_move_X2_movingObstacle
set_option maxRecDepth 20000 in
theorem ggX5_move_X2_nextPlace : GoodIn wsX5_move wsX2_nextPlace := goodIn_r _ [20, 21, 22, 23, 24, 25, 26, 27, 97, 98, 99, 100, 101, 102, 103, 104] (by decide +kernel) (by decide +kernel)
set_option maxRecDepth 20000 in
theorem gX5_move_X2_nextPlace : GoodIn wsX5_move (wsV RX5 157 RX2 yX2_nextPlace wsX2_nextPlace) := goodIn_app (goodIn_of _ (by decide +kernel)) ggX5_move_X2_nextPlace
set_option maxRecDepth 20000 in
theorem ggX5_move_X0_put : GoodIn wsX5_move wsX0_put := goodIn_r _ [93, 27, 101, 102, 103, 104] (by decide +kernel) (by decide +kernel)
set_option maxRecDepth 20000 in
theorem gX5_move_X0_put : GoodIn wsX5_move (wsV RX5 160 RX0 yX0_put wsX0_put) := goodIn_app (goodIn_of _ (by decide +kernel)) ggX5_move_X0_put
set_option maxRecDepth 20000 in
theorem ggX5_move_X0_placeAt : GoodIn wsX5_move wsX0_placeAt := goodIn_r _ [26, 27, 101, 102, 103, 104] (by decide +kernel) (by decide +kernel)
set_option maxRecDepth 20000 in
theorem gX5_move_X0_placeAt : GoodIn wsX5_move (wsV RX5 137 RX0 yX0_placeAt wsX0_placeAt) := goodIn_app (goodIn_of _ (by decide +kernel)) ggX5_move_X0_placeAt
theorem dX5_move_0 : decode cX5_move 0 = .ok (.aload_n 0, 1) := by decide +kernel
theorem dX5_move_1 : decode cX5_move 1 = .ok (.iload_n 1, 1) := by decide +kernel
theorem dX5_move_2 : decode cX5_move 2 = .ok (.invokevirtual 134, 3) := by decide +kernel
theorem dX5_move_5 : decode cX5_move 5 = .ok (.aload_n 0, 1) := by decide +kernel
theorem dX5_move_6 : decode cX5_move 6 = .ok (.getfield 14, 3) := by decide +kernel
theorem dX5_move_9 : decode cX5_move 9 = .ok (.iload_n 1, 1) := by decide +kernel
theorem dX5_move_10 : decode cX5_move 10 = .ok (.iload_n 2, 1) := by decide +kernel
theorem dX5_move_11 : decode cX5_move 11 = .ok (.invokevirtual 151, 3) := by decide +kernel
theorem dX5_move_14 : decode cX5_move 14 = .ok (.ifCond .eq 13, 3) := by decide +kernel
theorem dX5_move_17 : decode cX5_move 17 = .ok (.new 63, 3) := by decide +kernel
theorem dX5_move_20 : decode cX5_move 20 = .ok (.dup, 1) := by decide +kernel
theorem dX5_move_21 : decode cX5_move 21 = .ok (.ldc 155, 2) := by decide +kernel
theorem dX5_move_23 : decode cX5_move 23 = .ok (.invokespecial 67, 3) := by decide +kernel
theorem dX5_move_26 : decode cX5_move 26 = .ok (.athrow, 1) := by decide +kernel
theorem dX5_move_27 : decode cX5_move 27 = .ok (.aload_n 0, 1) := by decide +kernel
theorem dX5_move_28 : decode cX5_move 28 = .ok (.getfield 14, 3) := by decide +kernel
theorem dX5_move_31 : decode cX5_move 31 = .ok (.getfield 115, 3) := by decide +kernel
theorem dX5_move_34 : decode cX5_move 34 = .ok (.iload_n 1, 1) := by decide +kernel
theorem dX5_move_35 : decode cX5_move 35 = .ok (.aload_n 0, 1) := by decide +kernel
theorem dX5_move_36 : decode cX5_move 36 = .ok (.getfield 14, 3) := by decide +kernel
theorem dX5_move_39 : decode cX5_move 39 = .ok (.iload_n 1, 1) := by decide +kernel
theorem dX5_move_40 : decode cX5_move 40 = .ok (.iload_n 2, 1) := by decide +kernel
theorem dX5_move_41 : decode cX5_move 41 = .ok (.invokevirtual 157, 3) := by decide +kernel
theorem dX5_move_44 : decode cX5_move 44 = .ok (.invokevirtual 160, 3) := by decide +kernel
theorem dX5_move_47 : decode cX5_move 47 = .ok (.aload_n 0, 1) := by decide +kernel
theorem dX5_move_48 : decode cX5_move 48 = .ok (.getfield 14, 3) := by decide +kernel
theorem dX5_move_51 : decode cX5_move 51 = .ok (.getfield 115, 3) := by decide +kernel
theorem dX5_move_54 : decode cX5_move 54 = .ok (.iload_n 1, 1) := by decide +kernel
theorem dX5_move_55 : decode cX5_move 55 = .ok (.invokevirtual 137, 3) := by decide +kernel
theorem dX5_move_58 : decode cX5_move 58 = .ok (.ireturn, 1) := by decide +kernel
set_option maxRecDepth 20000 in
theorem ggX5_take_X5_needBoat : GoodIn wsX5_take wsX5_needBoat := goodIn_ca (goodIn_r _ [6, 7, 8, 1, 158, 159, 160, 161, 162, 163, 164, 165, 166, 167] (by decide +kernel) (by decide +kernel)) (goodIn_sub (fun _ h => List.mem_cons_of_mem _ (List.mem_append_right _ h)) (by decide +kernel))
set_option maxRecDepth 20000 in
theorem gX5_take_X5_needBoat : GoodIn wsX5_take (wsV RX5 134 RX5 yX5_needBoat wsX5_needBoat) := goodIn_app (goodIn_of _ (by decide +kernel)) ggX5_take_X5_needBoat
set_option maxRecDepth 20000 in
theorem ggX5_take_X2_bring : GoodIn wsX5_take wsX2_bring := goodIn_r _ [13, 14, 15, 16, 17, 18, 19, 20, 21, 22, 23, 24, 25, 26, 27, 28, 29, 30, 31, 32, 33, 34, 35, 36, 37, 38, 39, 40, 41, 12, 42, 43, 44, 45, 46, 47, 48, 49, 50, 51, 52, 53, 54, 55, 56, 57, 58, 59, 60, 61, 62, 63, 64, 65, 66, 67, 68, 69, 70, 71, 72, 73, 74, 75, 76, 77, 78, 79, 80, 81, 82, 83, 84, 85, 86, 87, 88, 89, 90, 91, 92, 93, 94, 95, 96, 97, 98, 99, 100, 101, 102, 103, 104, 105, 106, 107, 108, 109, 110, 111, 112, 113, 114, 115, 116, 117, 118, 119, 120, 121, 122, 123, 124, 125, 126, 127, 128, 129, 130, 131, 132, 133, 134, 135, 136, 137, 138, 139, 140, 141, 142, 143, 144, 145, 146, 147, 148, 149, 150, 151, 152, 153, 154, 155, 156, 160, 161, 162, 163, 168, 169, 170, 171, 172, 173, 174, 175, 176, 177, 178, 179, 180, 181, 164, 165, 166, 167] (by decide +kernel) (by decide +kernel)
set_option maxRecDepth 20000 in
theorem gX5_take_X2_bring : GoodIn wsX5_take (wsV RX5 163 RX2 yX2_bring wsX2_bring) := goodIn_app (goodIn_of _ (by decide +kernel)) ggX5_take_X2_bring
set_option maxRecDepth 20000 in
theorem ggX5_take_X0_placeAt : GoodIn wsX5_take wsX0_placeAt := goodIn_r _ [53, 54, 164, 165, 166, 167] (by decide +kernel) (by decide +kernel)
set_option maxRecDepth 20000 in
theorem gX5_take_X0_placeAt : GoodIn wsX5_take (wsV RX5 137 RX0 yX0_placeAt wsX0_placeAt) := goodIn_app (goodIn_of _ (by decide +kernel)) ggX5_take_X0_placeAt
theorem dX5_take_0 : decode cX5_take 0 = .ok (.aload_n 0, 1) := by decide +kernel
theorem dX5_take_1 : decode cX5_take 1 = .ok (.iload_n 1, 1) := by decide +kernel
theorem dX5_take_2 : decode cX5_take 2 = .ok (.invokevirtual 134, 3) := by decide +kernel
theorem dX5_take_5 : decode cX5_take 5 = .ok (.aload_n 0, 1) := by decide +kernel
theorem dX5_take_6 : decode cX5_take 6 = .ok (.getfield 14, 3) := by decide +kernel
theorem dX5_take_9 : decode cX5_take 9 = .ok (.iload_n 1, 1) := by decide +kernel
theorem dX5_take_10 : decode cX5_take 10 = .ok (.iload_n 2, 1) := by decide +kernel
theorem dX5_take_11 : decode cX5_take 11 = .ok (.invokevirtual 163, 3) := by decide +kernel
theorem dX5_take_14 : decode cX5_take 14 = .ok (.aload_n 0, 1) := by decide +kernel
theorem dX5_take_15 : decode cX5_take 15 = .ok (.getfield 14, 3) := by decide +kernel
theorem dX5_take_18 : decode cX5_take 18 = .ok (.getfield 115, 3) := by decide +kernel
theorem dX5_take_21 : decode cX5_take 21 = .ok (.iload_n 1, 1) := by decide +kernel
theorem dX5_take_22 : decode cX5_take 22 = .ok (.invokevirtual 137, 3) := by decide +kernel
theorem dX5_take_25 : decode cX5_take 25 = .ok (.ireturn, 1) := by decide +kernel
set_option maxRecDepth 20000 in
theorem ggX5_reportLength_X3_size : GoodIn wsX5_reportLength wsX3_size := goodIn_r _ [6, 7, 8, 15, 16, 17, 18] (by decide +kernel) (by decide +kernel)
set_option maxRecDepth 20000 in
theorem gX5_reportLength_X3_size : GoodIn wsX5_reportLength (wsV RX5 170 RX3 yX3_size wsX3_size) := goodIn_app (goodIn_of _ (by decide +kernel)) ggX5_reportLength_X3_size
theorem dX5_reportLength_0 : decode cX5_reportLength 0 = .ok (.aload_n 0, 1) := by decide +kernel
theorem dX5_reportLength_1 : decode cX5_reportLength 1 = .ok (.getfield 14, 3) := by decide +kernel
theorem dX5_reportLength_4 : decode cX5_reportLength 4 = .ok (.getfield 166, 3) := by decide +kernel
theorem dX5_reportLength_7 : decode cX5_reportLength 7 = .ok (.invokevirtual 170, 3) := by decide +kernel
theorem dX5_reportLength_10 : decode cX5_reportLength 10 = .ok (.ireturn, 1) := by decide +kernel
set_option maxRecDepth 20000 in
theorem ggX5_reportKind_X3_kindOf : GoodIn wsX5_reportKind wsX3_kindOf := goodIn_r _ [6, 7, 8, 9, 10, 11, 5, 12, 19, 20, 21, 22] (by decide +kernel) (by decide +kernel)
set_option maxRecDepth 20000 in
theorem gX5_reportKind_X3_kindOf : GoodIn wsX5_reportKind (wsV RX5 175 RX3 yX3_kindOf wsX3_kindOf) := goodIn_app (goodIn_of _ (by decide +kernel)) ggX5_reportKind_X3_kindOf
theorem dX5_reportKind_0 : decode cX5_reportKind 0 = .ok (.aload_n 0, 1) := by decide +kernel
theorem dX5_reportKind_1 : decode cX5_reportKind 1 = .ok (.getfield 14, 3) := by decide +kernel
theorem dX5_reportKind_4 : decode cX5_reportKind 4 = .ok (.getfield 166, 3) := by decide +kernel
theorem dX5_reportKind_7 : decode cX5_reportKind 7 = .ok (.iload_n 1, 1) := by decide +kernel
theorem dX5_reportKind_8 : decode cX5_reportKind 8 = .ok (.invokevirtual 175, 3) := by decide +kernel
theorem dX5_reportKind_11 : decode cX5_reportKind 11 = .ok (.ireturn, 1) := by decide +kernel
set_option maxRecDepth 20000 in
theorem ggX5_reportNumber_X3_numberOf : GoodIn wsX5_reportNumber wsX3_numberOf := goodIn_r _ [6, 7, 8, 9, 10, 11, 5, 12, 13, 14, 15, 16, 17, 18, 25, 26, 27, 28] (by decide +kernel) (by decide +kernel)
set_option maxRecDepth 20000 in
theorem gX5_reportNumber_X3_numberOf : GoodIn wsX5_reportNumber (wsV RX5 178 RX3 yX3_numberOf wsX3_numberOf) := goodIn_app (goodIn_of _ (by decide +kernel)) ggX5_reportNumber_X3_numberOf
theorem dX5_reportNumber_0 : decode cX5_reportNumber 0 = .ok (.aload_n 0, 1) := by decide +kernel
theorem dX5_reportNumber_1 : decode cX5_reportNumber 1 = .ok (.getfield 14, 3) := by decide +kernel
theorem dX5_reportNumber_4 : decode cX5_reportNumber 4 = .ok (.getfield 166, 3) := by decide +kernel
theorem dX5_reportNumber_7 : decode cX5_reportNumber 7 = .ok (.iload_n 1, 1) := by decide +kernel
theorem dX5_reportNumber_8 : decode cX5_reportNumber 8 = .ok (.invokevirtual 178, 3) := by decide +kernel
theorem dX5_reportNumber_11 : decode cX5_reportNumber 11 = .ok (.ireturn, 1) := by decide +kernel
set_option maxRecDepth 20000 in
theorem ggX5_minutesFor_X5_needBoat : GoodIn wsX5_minutesFor wsX5_needBoat := goodIn_ca (goodIn_r _ [7, 8, 9, 2, 180, 181, 182, 183, 184, 185, 194, 195, 196, 197] (by decide +kernel) (by decide +kernel)) (goodIn_sub (fun _ h => List.mem_cons_of_mem _ (List.mem_append_right _ h)) (by decide +kernel))
set_option maxRecDepth 20000 in
theorem gX5_minutesFor_X5_needBoat : GoodIn wsX5_minutesFor (wsV RX5 134 RX5 yX5_needBoat wsX5_needBoat) := goodIn_app (goodIn_of _ (by decide +kernel)) ggX5_minutesFor_X5_needBoat
set_option maxRecDepth 20000 in
theorem ggX5_minutesFor_X2_copyWaterAndBoats : GoodIn wsX5_minutesFor wsX2_copyWaterAndBoats := goodIn_r _ [14, 15, 16, 17, 18, 19, 20, 21, 22, 23, 24, 25, 26, 27, 28, 29, 30, 31, 32, 33, 34, 35, 36, 37, 38, 39, 40, 41, 42, 43, 44, 182, 183, 184, 185, 186, 187, 188, 189, 190, 191, 192, 193, 194, 195, 196, 197] (by decide +kernel) (by decide +kernel)
set_option maxRecDepth 20000 in
theorem gX5_minutesFor_X2_copyWaterAndBoats : GoodIn wsX5_minutesFor (wsV RX5 181 RX2 yX2_copyWaterAndBoats wsX2_copyWaterAndBoats) := goodIn_app (goodIn_of _ (by decide +kernel)) ggX5_minutesFor_X2_copyWaterAndBoats
set_option maxRecDepth 20000 in
theorem ggX5_minutesFor_X2_bring : GoodIn wsX5_minutesFor wsX2_bring := goodIn_r _ [48, 49, 50, 16, 15, 51, 52, 53, 54, 55, 56, 57, 58, 59, 60, 61, 62, 63, 64, 65, 66, 67, 68, 69, 70, 71, 72, 73, 74, 13, 75, 76, 77, 78, 20, 79, 22, 80, 81, 82, 38, 83, 43, 84, 85, 86, 87, 88, 89, 90, 91, 92, 24, 25, 26, 93, 94, 95, 96, 97, 34, 98, 99, 100, 101, 102, 103, 104, 105, 106, 107, 31, 108, 109, 110, 111, 112, 113, 114, 115, 116, 117, 118, 119, 120, 121, 122, 123, 124, 125, 126, 127, 128, 32, 129, 130, 131, 132, 133, 134, 135, 23, 136, 137, 138, 139, 140, 141, 142, 143, 144, 145, 146, 147, 148, 149, 150, 151, 152, 153, 154, 155, 156, 157, 158, 159, 160, 161, 42, 162, 163, 164, 165, 44, 166, 167, 168, 169, 170, 40, 171, 172, 173, 174, 175, 182, 183, 184, 185, 198, 199, 200, 201, 202, 203, 186, 187, 188, 189, 190, 191, 192, 193, 194, 195, 196, 197] (by decide +kernel) (by decide +kernel)
set_option maxRecDepth 20000 in
theorem gX5_minutesFor_X2_bring : GoodIn wsX5_minutesFor (wsV RX5 163 RX2 yX2_bring wsX2_bring) := goodIn_app (goodIn_of _ (by decide +kernel)) ggX5_minutesFor_X2_bring
set_option maxRecDepth 20000 in
theorem ggX5_minutesFor_X3_size : GoodIn wsX5_minutesFor wsX3_size := goodIn_r _ [179, 56, 149, 198, 199, 200, 201] (by decide +kernel) (by decide +kernel)
set_option maxRecDepth 20000 in
theorem gX5_minutesFor_X3_size : GoodIn wsX5_minutesFor (wsV RX5 170 RX3 yX3_size wsX3_size) := goodIn_app (goodIn_of _ (by decide +kernel)) ggX5_minutesFor_X3_size
theorem dX5_minutesFor_0 : decode cX5_minutesFor 0 = .ok (.aload_n 0, 1) := by decide +kernel
theorem dX5_minutesFor_1 : decode cX5_minutesFor 1 = .ok (.iload_n 1, 1) := by decide +kernel
theorem dX5_minutesFor_2 : decode cX5_minutesFor 2 = .ok (.invokevirtual 134, 3) := by decide +kernel
theorem dX5_minutesFor_5 : decode cX5_minutesFor 5 = .ok (.aload_n 0, 1) := by decide +kernel
theorem dX5_minutesFor_6 : decode cX5_minutesFor 6 = .ok (.getfield 18, 3) := by decide +kernel
theorem dX5_minutesFor_9 : decode cX5_minutesFor 9 = .ok (.aload_n 0, 1) := by decide +kernel
theorem dX5_minutesFor_10 : decode cX5_minutesFor 10 = .ok (.getfield 14, 3) := by decide +kernel
theorem dX5_minutesFor_13 : decode cX5_minutesFor 13 = .ok (.invokevirtual 181, 3) := by decide +kernel
theorem dX5_minutesFor_16 : decode cX5_minutesFor 16 = .ok (.aload_n 0, 1) := by decide +kernel
theorem dX5_minutesFor_17 : decode cX5_minutesFor 17 = .ok (.getfield 18, 3) := by decide +kernel
theorem dX5_minutesFor_20 : decode cX5_minutesFor 20 = .ok (.iload_n 1, 1) := by decide +kernel
theorem dX5_minutesFor_21 : decode cX5_minutesFor 21 = .ok (.iload_n 2, 1) := by decide +kernel
theorem dX5_minutesFor_22 : decode cX5_minutesFor 22 = .ok (.invokevirtual 163, 3) := by decide +kernel
theorem dX5_minutesFor_25 : decode cX5_minutesFor 25 = .ok (.aload_n 0, 1) := by decide +kernel
theorem dX5_minutesFor_26 : decode cX5_minutesFor 26 = .ok (.getfield 18, 3) := by decide +kernel
theorem dX5_minutesFor_29 : decode cX5_minutesFor 29 = .ok (.getfield 166, 3) := by decide +kernel
theorem dX5_minutesFor_32 : decode cX5_minutesFor 32 = .ok (.invokevirtual 170, 3) := by decide +kernel
theorem dX5_minutesFor_35 : decode cX5_minutesFor 35 = .ok (.ifCond .le 7, 3) := by decide +kernel
theorem dX5_minutesFor_38 : decode cX5_minutesFor 38 = .ok (.iconst (-1), 1) := by decide +kernel
theorem dX5_minutesFor_39 : decode cX5_minutesFor 39 = .ok (.goto 24, 3) := by decide +kernel
theorem dX5_minutesFor_42 : decode cX5_minutesFor 42 = .ok (.aload_n 0, 1) := by decide +kernel
theorem dX5_minutesFor_43 : decode cX5_minutesFor 43 = .ok (.getfield 18, 3) := by decide +kernel
theorem dX5_minutesFor_46 : decode cX5_minutesFor 46 = .ok (.getfield 21, 3) := by decide +kernel
theorem dX5_minutesFor_49 : decode cX5_minutesFor 49 = .ok (.getfield 108, 3) := by decide +kernel
theorem dX5_minutesFor_52 : decode cX5_minutesFor 52 = .ok (.aload_n 0, 1) := by decide +kernel
theorem dX5_minutesFor_53 : decode cX5_minutesFor 53 = .ok (.getfield 14, 3) := by decide +kernel
theorem dX5_minutesFor_56 : decode cX5_minutesFor 56 = .ok (.getfield 21, 3) := by decide +kernel
theorem dX5_minutesFor_59 : decode cX5_minutesFor 59 = .ok (.getfield 108, 3) := by decide +kernel
theorem dX5_minutesFor_62 : decode cX5_minutesFor 62 = .ok (.isub, 1) := by decide +kernel
theorem dX5_minutesFor_63 : decode cX5_minutesFor 63 = .ok (.ireturn, 1) := by decide +kernel
set_option maxRecDepth 20000 in
theorem ggX5_waterFor_X5_needBoat : GoodIn wsX5_waterFor wsX5_needBoat := goodIn_ca (goodIn_r _ [7, 8, 9, 2, 176, 177, 178, 179, 180, 181, 190, 191, 192, 193] (by decide +kernel) (by decide +kernel)) (goodIn_sub (fun _ h => List.mem_cons_of_mem _ (List.mem_append_right _ h)) (by decide +kernel))
set_option maxRecDepth 20000 in
theorem gX5_waterFor_X5_needBoat : GoodIn wsX5_waterFor (wsV RX5 134 RX5 yX5_needBoat wsX5_needBoat) := goodIn_app (goodIn_of _ (by decide +kernel)) ggX5_waterFor_X5_needBoat
set_option maxRecDepth 20000 in
theorem ggX5_waterFor_X2_copyWaterAndBoats : GoodIn wsX5_waterFor wsX2_copyWaterAndBoats := goodIn_r _ [14, 15, 16, 17, 18, 19, 20, 21, 22, 23, 24, 25, 26, 27, 28, 29, 30, 31, 32, 33, 34, 35, 36, 37, 38, 39, 40, 41, 42, 43, 44, 178, 179, 180, 181, 182, 183, 184, 185, 186, 187, 188, 189, 190, 191, 192, 193] (by decide +kernel) (by decide +kernel)
set_option maxRecDepth 20000 in
theorem gX5_waterFor_X2_copyWaterAndBoats : GoodIn wsX5_waterFor (wsV RX5 181 RX2 yX2_copyWaterAndBoats wsX2_copyWaterAndBoats) := goodIn_app (goodIn_of _ (by decide +kernel)) ggX5_waterFor_X2_copyWaterAndBoats
set_option maxRecDepth 20000 in
theorem ggX5_waterFor_X2_bring : GoodIn wsX5_waterFor wsX2_bring := goodIn_r _ [48, 49, 50, 16, 15, 51, 52, 53, 54, 55, 56, 57, 58, 59, 60, 61, 62, 63, 64, 65, 66, 67, 68, 69, 70, 71, 72, 73, 74, 13, 75, 76, 77, 78, 20, 79, 22, 80, 81, 82, 38, 83, 43, 84, 85, 86, 87, 88, 89, 90, 91, 92, 24, 25, 26, 93, 94, 95, 96, 97, 34, 98, 99, 100, 101, 102, 103, 104, 105, 106, 107, 31, 108, 109, 110, 111, 112, 113, 114, 115, 116, 117, 118, 119, 120, 121, 122, 123, 124, 125, 126, 127, 128, 32, 129, 130, 131, 132, 133, 134, 135, 23, 136, 137, 138, 139, 140, 141, 142, 143, 144, 145, 146, 147, 148, 149, 150, 151, 152, 153, 154, 155, 156, 157, 158, 159, 160, 161, 42, 162, 163, 164, 165, 44, 166, 167, 168, 169, 170, 40, 171, 172, 173, 174, 175, 178, 179, 180, 181, 194, 195, 196, 197, 198, 199, 182, 183, 184, 185, 186, 187, 188, 189, 190, 191, 192, 193] (by decide +kernel) (by decide +kernel)
set_option maxRecDepth 20000 in
theorem gX5_waterFor_X2_bring : GoodIn wsX5_waterFor (wsV RX5 163 RX2 yX2_bring wsX2_bring) := goodIn_app (goodIn_of _ (by decide +kernel)) ggX5_waterFor_X2_bring
theorem dX5_waterFor_0 : decode cX5_waterFor 0 = .ok (.aload_n 0, 1) := by decide +kernel
theorem dX5_waterFor_1 : decode cX5_waterFor 1 = .ok (.iload_n 1, 1) := by decide +kernel
theorem dX5_waterFor_2 : decode cX5_waterFor 2 = .ok (.invokevirtual 134, 3) := by decide +kernel
theorem dX5_waterFor_5 : decode cX5_waterFor 5 = .ok (.aload_n 0, 1) := by decide +kernel
theorem dX5_waterFor_6 : decode cX5_waterFor 6 = .ok (.getfield 18, 3) := by decide +kernel
theorem dX5_waterFor_9 : decode cX5_waterFor 9 = .ok (.aload_n 0, 1) := by decide +kernel
theorem dX5_waterFor_10 : decode cX5_waterFor 10 = .ok (.getfield 14, 3) := by decide +kernel
theorem dX5_waterFor_13 : decode cX5_waterFor 13 = .ok (.invokevirtual 181, 3) := by decide +kernel
theorem dX5_waterFor_16 : decode cX5_waterFor 16 = .ok (.aload_n 0, 1) := by decide +kernel
theorem dX5_waterFor_17 : decode cX5_waterFor 17 = .ok (.getfield 18, 3) := by decide +kernel
theorem dX5_waterFor_20 : decode cX5_waterFor 20 = .ok (.iload_n 1, 1) := by decide +kernel
theorem dX5_waterFor_21 : decode cX5_waterFor 21 = .ok (.iload_n 2, 1) := by decide +kernel
theorem dX5_waterFor_22 : decode cX5_waterFor 22 = .ok (.invokevirtual 163, 3) := by decide +kernel
theorem dX5_waterFor_25 : decode cX5_waterFor 25 = .ok (.aload_n 0, 1) := by decide +kernel
theorem dX5_waterFor_26 : decode cX5_waterFor 26 = .ok (.getfield 14, 3) := by decide +kernel
theorem dX5_waterFor_29 : decode cX5_waterFor 29 = .ok (.getfield 21, 3) := by decide +kernel
theorem dX5_waterFor_32 : decode cX5_waterFor 32 = .ok (.getfield 42, 3) := by decide +kernel
theorem dX5_waterFor_35 : decode cX5_waterFor 35 = .ok (.aload_n 0, 1) := by decide +kernel
theorem dX5_waterFor_36 : decode cX5_waterFor 36 = .ok (.getfield 18, 3) := by decide +kernel
theorem dX5_waterFor_39 : decode cX5_waterFor 39 = .ok (.getfield 21, 3) := by decide +kernel
theorem dX5_waterFor_42 : decode cX5_waterFor 42 = .ok (.getfield 42, 3) := by decide +kernel
theorem dX5_waterFor_45 : decode cX5_waterFor 45 = .ok (.isub, 1) := by decide +kernel
theorem dX5_waterFor_46 : decode cX5_waterFor 46 = .ok (.ireturn, 1) := by decide +kernel
theorem dX5_lostWater_0 : decode cX5_lostWater 0 = .ok (.aload_n 0, 1) := by decide +kernel
theorem dX5_lostWater_1 : decode cX5_lostWater 1 = .ok (.getfield 14, 3) := by decide +kernel
theorem dX5_lostWater_4 : decode cX5_lostWater 4 = .ok (.getfield 21, 3) := by decide +kernel
theorem dX5_lostWater_7 : decode cX5_lostWater 7 = .ok (.getfield 185, 3) := by decide +kernel
theorem dX5_lostWater_10 : decode cX5_lostWater 10 = .ok (.ireturn, 1) := by decide +kernel
set_option maxRecDepth 20000 in
theorem ggX5_meanLevel_X4_count : GoodIn wsX5_meanLevel wsX4_count := goodIn_r _ [6, 7, 25, 26, 27, 28, 29, 30, 31, 32] (by decide +kernel) (by decide +kernel)
set_option maxRecDepth 20000 in
theorem gX5_meanLevel_X4_count : GoodIn wsX5_meanLevel (wsV RX5 25 RX4 yX4_count wsX4_count) := goodIn_app (goodIn_of _ (by decide +kernel)) ggX5_meanLevel_X4_count
set_option maxRecDepth 20000 in
theorem ggX5_meanLevel_X4_levelAt : GoodIn wsX5_meanLevel wsX4_levelAt := goodIn_r _ [11, 7, 12, 13, 14, 15, 16, 17, 18, 25, 26, 27, 28, 29, 30, 31, 32] (by decide +kernel) (by decide +kernel)
set_option maxRecDepth 20000 in
theorem gX5_meanLevel_X4_levelAt : GoodIn wsX5_meanLevel (wsV RX5 35 RX4 yX4_levelAt wsX4_levelAt) := goodIn_app (goodIn_of _ (by decide +kernel)) ggX5_meanLevel_X4_levelAt
theorem dX5_meanLevel_0 : decode cX5_meanLevel 0 = .ok (.iconst 0, 1) := by decide +kernel
theorem dX5_meanLevel_1 : decode cX5_meanLevel 1 = .ok (.istore_n 1, 1) := by decide +kernel
theorem dX5_meanLevel_2 : decode cX5_meanLevel 2 = .ok (.aload_n 0, 1) := by decide +kernel
theorem dX5_meanLevel_3 : decode cX5_meanLevel 3 = .ok (.getfield 14, 3) := by decide +kernel
theorem dX5_meanLevel_6 : decode cX5_meanLevel 6 = .ok (.getfield 21, 3) := by decide +kernel
theorem dX5_meanLevel_9 : decode cX5_meanLevel 9 = .ok (.invokevirtual 25, 3) := by decide +kernel
theorem dX5_meanLevel_12 : decode cX5_meanLevel 12 = .ok (.istore_n 2, 1) := by decide +kernel
theorem dX5_meanLevel_13 : decode cX5_meanLevel 13 = .ok (.iconst 0, 1) := by decide +kernel
theorem dX5_meanLevel_14 : decode cX5_meanLevel 14 = .ok (.istore_n 3, 1) := by decide +kernel
theorem dX5_meanLevel_15 : decode cX5_meanLevel 15 = .ok (.iload_n 3, 1) := by decide +kernel
theorem dX5_meanLevel_16 : decode cX5_meanLevel 16 = .ok (.iload_n 2, 1) := by decide +kernel
theorem dX5_meanLevel_17 : decode cX5_meanLevel 17 = .ok (.if_icmp .ge 23, 3) := by decide +kernel
theorem dX5_meanLevel_20 : decode cX5_meanLevel 20 = .ok (.iload_n 1, 1) := by decide +kernel
theorem dX5_meanLevel_21 : decode cX5_meanLevel 21 = .ok (.aload_n 0, 1) := by decide +kernel
theorem dX5_meanLevel_22 : decode cX5_meanLevel 22 = .ok (.getfield 14, 3) := by decide +kernel
theorem dX5_meanLevel_25 : decode cX5_meanLevel 25 = .ok (.getfield 21, 3) := by decide +kernel
theorem dX5_meanLevel_28 : decode cX5_meanLevel 28 = .ok (.iload_n 3, 1) := by decide +kernel
theorem dX5_meanLevel_29 : decode cX5_meanLevel 29 = .ok (.invokevirtual 35, 3) := by decide +kernel
theorem dX5_meanLevel_32 : decode cX5_meanLevel 32 = .ok (.iadd, 1) := by decide +kernel
theorem dX5_meanLevel_33 : decode cX5_meanLevel 33 = .ok (.istore_n 1, 1) := by decide +kernel
theorem dX5_meanLevel_34 : decode cX5_meanLevel 34 = .ok (.iinc 3 1, 3) := by decide +kernel
theorem dX5_meanLevel_37 : decode cX5_meanLevel 37 = .ok (.goto (-22), 3) := by decide +kernel
theorem dX5_meanLevel_40 : decode cX5_meanLevel 40 = .ok (.iload_n 2, 1) := by decide +kernel
theorem dX5_meanLevel_41 : decode cX5_meanLevel 41 = .ok (.iconst 1, 1) := by decide +kernel
theorem dX5_meanLevel_42 : decode cX5_meanLevel 42 = .ok (.if_icmp .ge 7, 3) := by decide +kernel
theorem dX5_meanLevel_45 : decode cX5_meanLevel 45 = .ok (.dconst 0, 1) := by decide +kernel
theorem dX5_meanLevel_46 : decode cX5_meanLevel 46 = .ok (.goto 8, 3) := by decide +kernel
theorem dX5_meanLevel_49 : decode cX5_meanLevel 49 = .ok (.iload_n 1, 1) := by decide +kernel
theorem dX5_meanLevel_50 : decode cX5_meanLevel 50 = .ok (.i2d, 1) := by decide +kernel
theorem dX5_meanLevel_51 : decode cX5_meanLevel 51 = .ok (.iload_n 2, 1) := by decide +kernel
theorem dX5_meanLevel_52 : decode cX5_meanLevel 52 = .ok (.i2d, 1) := by decide +kernel
theorem dX5_meanLevel_53 : decode cX5_meanLevel 53 = .ok (.ddiv, 1) := by decide +kernel
theorem dX5_meanLevel_54 : decode cX5_meanLevel 54 = .ok (.dreturn, 1) := by decide +kernel
set_option maxRecDepth 20000 in
theorem ggX5_poundPart_X4_fullPound : GoodIn wsX5_poundPart wsX4_fullPound := goodIn_r _ [6, 7, 14, 15, 16, 17, 18, 19, 20, 21] (by decide +kernel) (by decide +kernel)
set_option maxRecDepth 20000 in
theorem gX5_poundPart_X4_fullPound : GoodIn wsX5_poundPart (wsV RX5 188 RX4 yX4_fullPound wsX4_fullPound) := goodIn_app (goodIn_of _ (by decide +kernel)) ggX5_poundPart_X4_fullPound
theorem dX5_poundPart_0 : decode cX5_poundPart 0 = .ok (.aload_n 0, 1) := by decide +kernel
theorem dX5_poundPart_1 : decode cX5_poundPart 1 = .ok (.getfield 14, 3) := by decide +kernel
theorem dX5_poundPart_4 : decode cX5_poundPart 4 = .ok (.getfield 21, 3) := by decide +kernel
theorem dX5_poundPart_7 : decode cX5_poundPart 7 = .ok (.invokevirtual 188, 3) := by decide +kernel
theorem dX5_poundPart_10 : decode cX5_poundPart 10 = .ok (.istore_n 1, 1) := by decide +kernel
theorem dX5_poundPart_11 : decode cX5_poundPart 11 = .ok (.iload_n 1, 1) := by decide +kernel
theorem dX5_poundPart_12 : decode cX5_poundPart 12 = .ok (.iconst 1, 1) := by decide +kernel
theorem dX5_poundPart_13 : decode cX5_poundPart 13 = .ok (.if_icmp .ge 7, 3) := by decide +kernel
theorem dX5_poundPart_16 : decode cX5_poundPart 16 = .ok (.fconst 0, 1) := by decide +kernel
theorem dX5_poundPart_17 : decode cX5_poundPart 17 = .ok (.goto 17, 3) := by decide +kernel
theorem dX5_poundPart_20 : decode cX5_poundPart 20 = .ok (.aload_n 0, 1) := by decide +kernel
theorem dX5_poundPart_21 : decode cX5_poundPart 21 = .ok (.getfield 14, 3) := by decide +kernel
theorem dX5_poundPart_24 : decode cX5_poundPart 24 = .ok (.getfield 21, 3) := by decide +kernel
theorem dX5_poundPart_27 : decode cX5_poundPart 27 = .ok (.getfield 42, 3) := by decide +kernel
theorem dX5_poundPart_30 : decode cX5_poundPart 30 = .ok (.i2f, 1) := by decide +kernel
theorem dX5_poundPart_31 : decode cX5_poundPart 31 = .ok (.iload_n 1, 1) := by decide +kernel
theorem dX5_poundPart_32 : decode cX5_poundPart 32 = .ok (.i2f, 1) := by decide +kernel
theorem dX5_poundPart_33 : decode cX5_poundPart 33 = .ok (.fdiv, 1) := by decide +kernel
theorem dX5_poundPart_34 : decode cX5_poundPart 34 = .ok (.freturn, 1) := by decide +kernel
set_option maxRecDepth 20000 in
theorem ggX5_isConsistent_X2_gatesHold : GoodIn wsX5_isConsistent wsX2_gatesHold := goodIn_r _ [6, 7, 8, 9, 10, 11, 12, 13, 14, 15, 16, 17, 18, 19, 20, 21, 22, 23, 24, 25, 26, 27, 28, 29, 30, 31, 32, 33, 34, 35, 36, 37, 38, 39, 40, 41, 42, 43, 44, 91, 92, 93, 94, 95, 96, 97, 98, 99, 100, 101, 102, 103, 104] (by decide +kernel) (by decide +kernel)
set_option maxRecDepth 20000 in
theorem gX5_isConsistent_X2_gatesHold : GoodIn wsX5_isConsistent (wsV RX5 191 RX2 yX2_gatesHold wsX2_gatesHold) := goodIn_app (goodIn_of _ (by decide +kernel)) ggX5_isConsistent_X2_gatesHold
set_option maxRecDepth 20000 in
theorem ggX5_isConsistent_X2_boatsFit : GoodIn wsX5_isConsistent wsX2_boatsFit := goodIn_r _ [48, 49, 50, 51, 52, 5, 53, 7, 9, 10, 11, 12, 13, 14, 54, 55, 56, 57, 58, 59, 60, 61, 62, 63, 64, 65, 66, 67, 68, 69, 91, 92, 93, 94, 95, 96, 97, 98, 99, 100, 101, 102, 105, 106, 107, 108] (by decide +kernel) (by decide +kernel)
set_option maxRecDepth 20000 in
theorem gX5_isConsistent_X2_boatsFit : GoodIn wsX5_isConsistent (wsV RX5 195 RX2 yX2_boatsFit wsX2_boatsFit) := goodIn_app (goodIn_of _ (by decide +kernel)) ggX5_isConsistent_X2_boatsFit
set_option maxRecDepth 20000 in
theorem ggX5_isConsistent_X4_isBalanced : GoodIn wsX5_isConsistent wsX4_isBalanced := goodIn_r _ [73, 31, 74, 14, 75, 76, 77, 78, 12, 79, 80, 81, 82, 83, 84, 85, 86, 87, 88, 29, 95, 96, 97, 98, 99, 100, 101, 102] (by decide +kernel) (by decide +kernel)
set_option maxRecDepth 20000 in
theorem gX5_isConsistent_X4_isBalanced : GoodIn wsX5_isConsistent (wsV RX5 198 RX4 yX4_isBalanced wsX4_isBalanced) := goodIn_app (goodIn_of _ (by decide +kernel)) ggX5_isConsistent_X4_isBalanced
theorem dX5_isConsistent_0 : decode cX5_isConsistent 0 = .ok (.aload_n 0, 1) := by decide +kernel
theorem dX5_isConsistent_1 : decode cX5_isConsistent 1 = .ok (.getfield 14, 3) := by decide +kernel
theorem dX5_isConsistent_4 : decode cX5_isConsistent 4 = .ok (.invokevirtual 191, 3) := by decide +kernel
theorem dX5_isConsistent_7 : decode cX5_isConsistent 7 = .ok (.ifCond .eq 30, 3) := by decide +kernel
theorem dX5_isConsistent_10 : decode cX5_isConsistent 10 = .ok (.aload_n 0, 1) := by decide +kernel
theorem dX5_isConsistent_11 : decode cX5_isConsistent 11 = .ok (.getfield 14, 3) := by decide +kernel
theorem dX5_isConsistent_14 : decode cX5_isConsistent 14 = .ok (.invokevirtual 195, 3) := by decide +kernel
theorem dX5_isConsistent_17 : decode cX5_isConsistent 17 = .ok (.ifCond .eq 20, 3) := by decide +kernel
theorem dX5_isConsistent_20 : decode cX5_isConsistent 20 = .ok (.aload_n 0, 1) := by decide +kernel
theorem dX5_isConsistent_21 : decode cX5_isConsistent 21 = .ok (.getfield 14, 3) := by decide +kernel
theorem dX5_isConsistent_24 : decode cX5_isConsistent 24 = .ok (.getfield 21, 3) := by decide +kernel
theorem dX5_isConsistent_27 : decode cX5_isConsistent 27 = .ok (.invokevirtual 198, 3) := by decide +kernel
theorem dX5_isConsistent_30 : decode cX5_isConsistent 30 = .ok (.ifCond .eq 7, 3) := by decide +kernel
theorem dX5_isConsistent_33 : decode cX5_isConsistent 33 = .ok (.iconst 1, 1) := by decide +kernel
theorem dX5_isConsistent_34 : decode cX5_isConsistent 34 = .ok (.goto 4, 3) := by decide +kernel
theorem dX5_isConsistent_37 : decode cX5_isConsistent 37 = .ok (.iconst 0, 1) := by decide +kernel
theorem dX5_isConsistent_38 : decode cX5_isConsistent 38 = .ok (.ireturn, 1) := by decide +kernel
set_option maxRecDepth 20000 in
theorem ggX5_needChamber_X4_count : GoodIn wsX5_needChamber wsX4_count := goodIn_r _ [8, 9, 16, 17, 18, 19, 20, 21, 22, 23] (by decide +kernel) (by decide +kernel)
set_option maxRecDepth 20000 in
theorem gX5_needChamber_X4_count : GoodIn wsX5_needChamber (wsV RX5 25 RX4 yX4_count wsX4_count) := goodIn_app (goodIn_of _ (by decide +kernel)) ggX5_needChamber_X4_count
theorem dX5_needChamber_0 : decode cX5_needChamber 0 = .ok (.iload_n 1, 1) := by decide +kernel
theorem dX5_needChamber_1 : decode cX5_needChamber 1 = .ok (.ifCond .lt 17, 3) := by decide +kernel
theorem dX5_needChamber_4 : decode cX5_needChamber 4 = .ok (.iload_n 1, 1) := by decide +kernel
theorem dX5_needChamber_5 : decode cX5_needChamber 5 = .ok (.aload_n 0, 1) := by decide +kernel
theorem dX5_needChamber_6 : decode cX5_needChamber 6 = .ok (.getfield 14, 3) := by decide +kernel
theorem dX5_needChamber_9 : decode cX5_needChamber 9 = .ok (.getfield 21, 3) := by decide +kernel
theorem dX5_needChamber_12 : decode cX5_needChamber 12 = .ok (.invokevirtual 25, 3) := by decide +kernel
theorem dX5_needChamber_15 : decode cX5_needChamber 15 = .ok (.if_icmp .lt 13, 3) := by decide +kernel
theorem dX5_needChamber_18 : decode cX5_needChamber 18 = .ok (.new 140, 3) := by decide +kernel
theorem dX5_needChamber_21 : decode cX5_needChamber 21 = .ok (.dup, 1) := by decide +kernel
theorem dX5_needChamber_22 : decode cX5_needChamber 22 = .ok (.ldc 201, 2) := by decide +kernel
theorem dX5_needChamber_24 : decode cX5_needChamber 24 = .ok (.invokespecial 144, 3) := by decide +kernel
theorem dX5_needChamber_27 : decode cX5_needChamber 27 = .ok (.athrow, 1) := by decide +kernel
theorem dX5_needChamber_28 : decode cX5_needChamber 28 = .ok (.return_, 1) := by decide +kernel
set_option maxRecDepth 20000 in
theorem ggX5_needGate_X4_count : GoodIn wsX5_needGate wsX4_count := goodIn_r _ [8, 9, 16, 17, 18, 19, 20, 21, 22, 23] (by decide +kernel) (by decide +kernel)
set_option maxRecDepth 20000 in
theorem gX5_needGate_X4_count : GoodIn wsX5_needGate (wsV RX5 25 RX4 yX4_count wsX4_count) := goodIn_app (goodIn_of _ (by decide +kernel)) ggX5_needGate_X4_count
theorem dX5_needGate_0 : decode cX5_needGate 0 = .ok (.iload_n 1, 1) := by decide +kernel
theorem dX5_needGate_1 : decode cX5_needGate 1 = .ok (.ifCond .lt 17, 3) := by decide +kernel
theorem dX5_needGate_4 : decode cX5_needGate 4 = .ok (.iload_n 1, 1) := by decide +kernel
theorem dX5_needGate_5 : decode cX5_needGate 5 = .ok (.aload_n 0, 1) := by decide +kernel
theorem dX5_needGate_6 : decode cX5_needGate 6 = .ok (.getfield 14, 3) := by decide +kernel
theorem dX5_needGate_9 : decode cX5_needGate 9 = .ok (.getfield 21, 3) := by decide +kernel
theorem dX5_needGate_12 : decode cX5_needGate 12 = .ok (.invokevirtual 25, 3) := by decide +kernel
theorem dX5_needGate_15 : decode cX5_needGate 15 = .ok (.if_icmp .le 13, 3) := by decide +kernel
theorem dX5_needGate_18 : decode cX5_needGate 18 = .ok (.new 140, 3) := by decide +kernel
theorem dX5_needGate_21 : decode cX5_needGate 21 = .ok (.dup, 1) := by decide +kernel
theorem dX5_needGate_22 : decode cX5_needGate 22 = .ok (.ldc 203, 2) := by decide +kernel
theorem dX5_needGate_24 : decode cX5_needGate 24 = .ok (.invokespecial 144, 3) := by decide +kernel
theorem dX5_needGate_27 : decode cX5_needGate 27 = .ok (.athrow, 1) := by decide +kernel
theorem dX5_needGate_28 : decode cX5_needGate 28 = .ok (.return_, 1) := by decide +kernel
theorem dX5_needBoat_0 : decode cX5_needBoat 0 = .ok (.iload_n 1, 1) := by decide +kernel
theorem dX5_needBoat_1 : decode cX5_needBoat 1 = .ok (.ifCond .lt 17, 3) := by decide +kernel
theorem dX5_needBoat_4 : decode cX5_needBoat 4 = .ok (.iload_n 1, 1) := by decide +kernel
theorem dX5_needBoat_5 : decode cX5_needBoat 5 = .ok (.aload_n 0, 1) := by decide +kernel
theorem dX5_needBoat_6 : decode cX5_needBoat 6 = .ok (.getfield 14, 3) := by decide +kernel
theorem dX5_needBoat_9 : decode cX5_needBoat 9 = .ok (.getfield 115, 3) := by decide +kernel
theorem dX5_needBoat_12 : decode cX5_needBoat 12 = .ok (.getfield 119, 3) := by decide +kernel
theorem dX5_needBoat_15 : decode cX5_needBoat 15 = .ok (.if_icmp .lt 13, 3) := by decide +kernel
theorem dX5_needBoat_18 : decode cX5_needBoat 18 = .ok (.new 140, 3) := by decide +kernel
theorem dX5_needBoat_21 : decode cX5_needBoat 21 = .ok (.dup, 1) := by decide +kernel
theorem dX5_needBoat_22 : decode cX5_needBoat 22 = .ok (.ldc 205, 2) := by decide +kernel
theorem dX5_needBoat_24 : decode cX5_needBoat 24 = .ok (.invokespecial 144, 3) := by decide +kernel
theorem dX5_needBoat_27 : decode cX5_needBoat 27 = .ok (.athrow, 1) := by decide +kernel
theorem dX5_needBoat_28 : decode cX5_needBoat 28 = .ok (.return_, 1) := by decide +kernel
theorem dX5_within_0 : decode cX5_within 0 = .ok (.iload_n 1, 1) := by decide +kernel
theorem dX5_within_1 : decode cX5_within 1 = .ok (.iload_n 2, 1) := by decide +kernel
theorem dX5_within_2 : decode cX5_within 2 = .ok (.iload_n 0, 1) := by decide +kernel
theorem dX5_within_3 : decode cX5_within 3 = .ok (.invokestatic 207, 3) := by decide +kernel
theorem dX5_within_6 : decode cX5_within 6 = .ok (.invokestatic 213, 3) := by decide +kernel
theorem dX5_within_9 : decode cX5_within 9 = .ok (.ireturn, 1) := by decide +kernel
set_option maxRecDepth 20000 in
theorem ggX6_init_X6_within : GoodIn wsX6_init wsX6_within := goodIn_r _ [15, 16, 17, 18, 19, 20, 21, 22] (by decide +kernel) (by decide +kernel)
set_option maxRecDepth 20000 in
theorem gX6_init_X6_within : GoodIn wsX6_init (va_wsS RX6 22 yX6_within wsX6_within) := goodIn_app (goodIn_of _ (by decide +kernel)) ggX6_init_X6_within
set_option maxRecDepth 20000 in
theorem ggX6_init_X6_full : GoodIn wsX6_init wsX6_full := goodIn_r _ [26, 11, 27, 28, 29, 30, 31, 32, 33, 34, 35, 36, 37] (by decide +kernel) (by decide +kernel)
set_option maxRecDepth 20000 in
theorem gX6_init_X6_full : GoodIn wsX6_init (wsV RX6 36 RX6 yX6_full wsX6_full) := goodIn_app (goodIn_of _ (by decide +kernel)) ggX6_init_X6_full
theorem dX6_init_0 : decode cX6_init 0 = .ok (.aload_n 0, 1) := by decide +kernel
theorem dX6_init_1 : decode cX6_init 1 = .ok (.invokespecial 3, 3) := by decide +kernel
theorem dX6_init_4 : decode cX6_init 4 = .ok (.aload_n 0, 1) := by decide +kernel
theorem dX6_init_5 : decode cX6_init 5 = .ok (.bipush 50, 2) := by decide +kernel
theorem dX6_init_7 : decode cX6_init 7 = .ok (.newarray .int, 2) := by decide +kernel
theorem dX6_init_9 : decode cX6_init 9 = .ok (.putfield 9, 3) := by decide +kernel
theorem dX6_init_12 : decode cX6_init 12 = .ok (.aload_n 0, 1) := by decide +kernel
theorem dX6_init_13 : decode cX6_init 13 = .ok (.bipush 50, 2) := by decide +kernel
theorem dX6_init_15 : decode cX6_init 15 = .ok (.newarray .int, 2) := by decide +kernel
theorem dX6_init_17 : decode cX6_init 17 = .ok (.putfield 13, 3) := by decide +kernel
theorem dX6_init_20 : decode cX6_init 20 = .ok (.aload_n 0, 1) := by decide +kernel
theorem dX6_init_21 : decode cX6_init 21 = .ok (.bipush 10, 2) := by decide +kernel
theorem dX6_init_23 : decode cX6_init 23 = .ok (.newarray .int, 2) := by decide +kernel
theorem dX6_init_25 : decode cX6_init 25 = .ok (.putfield 16, 3) := by decide +kernel
theorem dX6_init_28 : decode cX6_init 28 = .ok (.aload_n 0, 1) := by decide +kernel
theorem dX6_init_29 : decode cX6_init 29 = .ok (.bipush 10, 2) := by decide +kernel
theorem dX6_init_31 : decode cX6_init 31 = .ok (.newarray .int, 2) := by decide +kernel
theorem dX6_init_33 : decode cX6_init 33 = .ok (.putfield 19, 3) := by decide +kernel
theorem dX6_init_36 : decode cX6_init 36 = .ok (.aload_n 0, 1) := by decide +kernel
theorem dX6_init_37 : decode cX6_init 37 = .ok (.iload_n 1, 1) := by decide +kernel
theorem dX6_init_38 : decode cX6_init 38 = .ok (.iconst 1, 1) := by decide +kernel
theorem dX6_init_39 : decode cX6_init 39 = .ok (.bipush 6, 2) := by decide +kernel
theorem dX6_init_41 : decode cX6_init 41 = .ok (.invokestatic 22, 3) := by decide +kernel
theorem dX6_init_44 : decode cX6_init 44 = .ok (.putfield 26, 3) := by decide +kernel
theorem dX6_init_47 : decode cX6_init 47 = .ok (.aload_n 0, 1) := by decide +kernel
theorem dX6_init_48 : decode cX6_init 48 = .ok (.iload_n 2, 1) := by decide +kernel
theorem dX6_init_49 : decode cX6_init 49 = .ok (.iconst 5, 1) := by decide +kernel
theorem dX6_init_50 : decode cX6_init 50 = .ok (.bipush 40, 2) := by decide +kernel
theorem dX6_init_52 : decode cX6_init 52 = .ok (.invokestatic 22, 3) := by decide +kernel
theorem dX6_init_55 : decode cX6_init 55 = .ok (.putfield 30, 3) := by decide +kernel
theorem dX6_init_58 : decode cX6_init 58 = .ok (.aload_n 0, 1) := by decide +kernel
theorem dX6_init_59 : decode cX6_init 59 = .ok (.iload_n 3, 1) := by decide +kernel
theorem dX6_init_60 : decode cX6_init 60 = .ok (.iconst 1, 1) := by decide +kernel
theorem dX6_init_61 : decode cX6_init 61 = .ok (.bipush 50, 2) := by decide +kernel
theorem dX6_init_63 : decode cX6_init 63 = .ok (.invokestatic 22, 3) := by decide +kernel
theorem dX6_init_66 : decode cX6_init 66 = .ok (.putfield 33, 3) := by decide +kernel
theorem dX6_init_69 : decode cX6_init 69 = .ok (.aload_n 0, 1) := by decide +kernel
theorem dX6_init_70 : decode cX6_init 70 = .ok (.getfield 9, 3) := by decide +kernel
theorem dX6_init_73 : decode cX6_init 73 = .ok (.iconst 0, 1) := by decide +kernel
theorem dX6_init_74 : decode cX6_init 74 = .ok (.aload_n 0, 1) := by decide +kernel
theorem dX6_init_75 : decode cX6_init 75 = .ok (.invokevirtual 36, 3) := by decide +kernel
theorem dX6_init_78 : decode cX6_init 78 = .ok (.iastore, 1) := by decide +kernel
theorem dX6_init_79 : decode cX6_init 79 = .ok (.return_, 1) := by decide +kernel
theorem dX6_thrown_0 : decode cX6_thrown 0 = .ok (.aload_n 0, 1) := by decide +kernel
theorem dX6_thrown_1 : decode cX6_thrown 1 = .ok (.getfield 40, 3) := by decide +kernel
theorem dX6_thrown_4 : decode cX6_thrown 4 = .ok (.ireturn, 1) := by decide +kernel
theorem dX6_within_0 : decode cX6_within 0 = .ok (.iload_n 1, 1) := by decide +kernel
theorem dX6_within_1 : decode cX6_within 1 = .ok (.iload_n 2, 1) := by decide +kernel
theorem dX6_within_2 : decode cX6_within 2 = .ok (.iload_n 0, 1) := by decide +kernel
theorem dX6_within_3 : decode cX6_within 3 = .ok (.invokestatic 43, 3) := by decide +kernel
theorem dX6_within_6 : decode cX6_within 6 = .ok (.invokestatic 49, 3) := by decide +kernel
theorem dX6_within_9 : decode cX6_within 9 = .ok (.ireturn, 1) := by decide +kernel
theorem dX6_isWithin_0 : decode cX6_isWithin 0 = .ok (.iload_n 0, 1) := by decide +kernel
theorem dX6_isWithin_1 : decode cX6_isWithin 1 = .ok (.iload_n 1, 1) := by decide +kernel
theorem dX6_isWithin_2 : decode cX6_isWithin 2 = .ok (.if_icmp .lt 12, 3) := by decide +kernel
theorem dX6_isWithin_5 : decode cX6_isWithin 5 = .ok (.iload_n 0, 1) := by decide +kernel
theorem dX6_isWithin_6 : decode cX6_isWithin 6 = .ok (.iload_n 2, 1) := by decide +kernel
theorem dX6_isWithin_7 : decode cX6_isWithin 7 = .ok (.if_icmp .gt 7, 3) := by decide +kernel
theorem dX6_isWithin_10 : decode cX6_isWithin 10 = .ok (.iconst 1, 1) := by decide +kernel
theorem dX6_isWithin_11 : decode cX6_isWithin 11 = .ok (.goto 4, 3) := by decide +kernel
theorem dX6_isWithin_14 : decode cX6_isWithin 14 = .ok (.iconst 0, 1) := by decide +kernel
theorem dX6_isWithin_15 : decode cX6_isWithin 15 = .ok (.ireturn, 1) := by decide +kernel
theorem dX6_check_0 : decode cX6_check 0 = .ok (.aload_n 0, 1) := by decide +kernel
theorem dX6_check_1 : decode cX6_check 1 = .ok (.iload_n 1, 1) := by decide +kernel
theorem dX6_check_2 : decode cX6_check 2 = .ok (.ifCond .ne 7, 3) := by decide +kernel
theorem dX6_check_5 : decode cX6_check 5 = .ok (.iconst 1, 1) := by decide +kernel
theorem dX6_check_6 : decode cX6_check 6 = .ok (.goto 20, 3) := by decide +kernel
theorem dX6_check_9 : decode cX6_check 9 = .ok (.iload_n 2, 1) := by decide +kernel
theorem dX6_check_10 : decode cX6_check 10 = .ok (.ifCond .ne 7, 3) := by decide +kernel
theorem dX6_check_13 : decode cX6_check 13 = .ok (.iconst 2, 1) := by decide +kernel
theorem dX6_check_14 : decode cX6_check 14 = .ok (.goto 12, 3) := by decide +kernel
theorem dX6_check_17 : decode cX6_check 17 = .ok (.iload_n 3, 1) := by decide +kernel
theorem dX6_check_18 : decode cX6_check 18 = .ok (.ifCond .ne 7, 3) := by decide +kernel
theorem dX6_check_21 : decode cX6_check 21 = .ok (.iconst 3, 1) := by decide +kernel
theorem dX6_check_22 : decode cX6_check 22 = .ok (.goto 4, 3) := by decide +kernel
theorem dX6_check_25 : decode cX6_check 25 = .ok (.iconst 0, 1) := by decide +kernel
theorem dX6_check_26 : decode cX6_check 26 = .ok (.putfield 40, 3) := by decide +kernel
theorem dX6_check_29 : decode cX6_check 29 = .ok (.aload_n 0, 1) := by decide +kernel
theorem dX6_check_30 : decode cX6_check 30 = .ok (.getfield 40, 3) := by decide +kernel
theorem dX6_check_33 : decode cX6_check 33 = .ok (.ifCond .ne 7, 3) := by decide +kernel
theorem dX6_check_36 : decode cX6_check 36 = .ok (.iconst 1, 1) := by decide +kernel
theorem dX6_check_37 : decode cX6_check 37 = .ok (.goto 4, 3) := by decide +kernel
theorem dX6_check_40 : decode cX6_check 40 = .ok (.iconst 0, 1) := by decide +kernel
theorem dX6_check_41 : decode cX6_check 41 = .ok (.ireturn, 1) := by decide +kernel
set_option maxRecDepth 20000 in
theorem ggX6_isChamber_X6_isWithin : GoodIn wsX6_isChamber wsX6_isWithin := goodIn_r _ [5] (by decide +kernel) (by decide +kernel)
set_option maxRecDepth 20000 in
theorem gX6_isChamber_X6_isWithin : GoodIn wsX6_isChamber (va_wsS RX6 52 yX6_isWithin wsX6_isWithin) := goodIn_app (goodIn_of _ (by decide +kernel)) ggX6_isChamber_X6_isWithin
theorem dX6_isChamber_0 : decode cX6_isChamber 0 = .ok (.iload_n 1, 1) := by decide +kernel
theorem dX6_isChamber_1 : decode cX6_isChamber 1 = .ok (.iconst 0, 1) := by decide +kernel
theorem dX6_isChamber_2 : decode cX6_isChamber 2 = .ok (.aload_n 0, 1) := by decide +kernel
theorem dX6_isChamber_3 : decode cX6_isChamber 3 = .ok (.getfield 26, 3) := by decide +kernel
theorem dX6_isChamber_6 : decode cX6_isChamber 6 = .ok (.iconst 1, 1) := by decide +kernel
theorem dX6_isChamber_7 : decode cX6_isChamber 7 = .ok (.isub, 1) := by decide +kernel
theorem dX6_isChamber_8 : decode cX6_isChamber 8 = .ok (.invokestatic 52, 3) := by decide +kernel
theorem dX6_isChamber_11 : decode cX6_isChamber 11 = .ok (.ireturn, 1) := by decide +kernel
set_option maxRecDepth 20000 in
theorem ggX6_isGate_X6_isWithin : GoodIn wsX6_isGate wsX6_isWithin := goodIn_r _ [5] (by decide +kernel) (by decide +kernel)
set_option maxRecDepth 20000 in
theorem gX6_isGate_X6_isWithin : GoodIn wsX6_isGate (va_wsS RX6 52 yX6_isWithin wsX6_isWithin) := goodIn_app (goodIn_of _ (by decide +kernel)) ggX6_isGate_X6_isWithin
theorem dX6_isGate_0 : decode cX6_isGate 0 = .ok (.iload_n 1, 1) := by decide +kernel
theorem dX6_isGate_1 : decode cX6_isGate 1 = .ok (.iconst 0, 1) := by decide +kernel
theorem dX6_isGate_2 : decode cX6_isGate 2 = .ok (.aload_n 0, 1) := by decide +kernel
theorem dX6_isGate_3 : decode cX6_isGate 3 = .ok (.getfield 26, 3) := by decide +kernel
theorem dX6_isGate_6 : decode cX6_isGate 6 = .ok (.invokestatic 52, 3) := by decide +kernel
theorem dX6_isGate_9 : decode cX6_isGate 9 = .ok (.ireturn, 1) := by decide +kernel
set_option maxRecDepth 20000 in
theorem ggX6_isBoat_X6_isWithin : GoodIn wsX6_isBoat wsX6_isWithin := goodIn_r _ [5] (by decide +kernel) (by decide +kernel)
set_option maxRecDepth 20000 in
theorem gX6_isBoat_X6_isWithin : GoodIn wsX6_isBoat (va_wsS RX6 52 yX6_isWithin wsX6_isWithin) := goodIn_app (goodIn_of _ (by decide +kernel)) ggX6_isBoat_X6_isWithin
theorem dX6_isBoat_0 : decode cX6_isBoat 0 = .ok (.iload_n 1, 1) := by decide +kernel
theorem dX6_isBoat_1 : decode cX6_isBoat 1 = .ok (.iconst 0, 1) := by decide +kernel
theorem dX6_isBoat_2 : decode cX6_isBoat 2 = .ok (.aload_n 0, 1) := by decide +kernel
theorem dX6_isBoat_3 : decode cX6_isBoat 3 = .ok (.getfield 56, 3) := by decide +kernel
theorem dX6_isBoat_6 : decode cX6_isBoat 6 = .ok (.iconst 1, 1) := by decide +kernel
theorem dX6_isBoat_7 : decode cX6_isBoat 7 = .ok (.isub, 1) := by decide +kernel
theorem dX6_isBoat_8 : decode cX6_isBoat 8 = .ok (.invokestatic 52, 3) := by decide +kernel
theorem dX6_isBoat_11 : decode cX6_isBoat 11 = .ok (.ireturn, 1) := by decide +kernel
set_option maxRecDepth 20000 in
theorem ggX6_isPlace_X6_isWithin : GoodIn wsX6_isPlace wsX6_isWithin := goodIn_r _ [5] (by decide +kernel) (by decide +kernel)
set_option maxRecDepth 20000 in
theorem gX6_isPlace_X6_isWithin : GoodIn wsX6_isPlace (va_wsS RX6 52 yX6_isWithin wsX6_isWithin) := goodIn_app (goodIn_of _ (by decide +kernel)) ggX6_isPlace_X6_isWithin
theorem dX6_isPlace_0 : decode cX6_isPlace 0 = .ok (.iload_n 1, 1) := by decide +kernel
theorem dX6_isPlace_1 : decode cX6_isPlace 1 = .ok (.iconst 0, 1) := by decide +kernel
theorem dX6_isPlace_2 : decode cX6_isPlace 2 = .ok (.aload_n 0, 1) := by decide +kernel
theorem dX6_isPlace_3 : decode cX6_isPlace 3 = .ok (.getfield 26, 3) := by decide +kernel
theorem dX6_isPlace_6 : decode cX6_isPlace 6 = .ok (.iconst 1, 1) := by decide +kernel
theorem dX6_isPlace_7 : decode cX6_isPlace 7 = .ok (.iadd, 1) := by decide +kernel
theorem dX6_isPlace_8 : decode cX6_isPlace 8 = .ok (.invokestatic 52, 3) := by decide +kernel
theorem dX6_isPlace_11 : decode cX6_isPlace 11 = .ok (.ireturn, 1) := by decide +kernel
theorem dX6_full_0 : decode cX6_full 0 = .ok (.bipush 20, 2) := by decide +kernel
theorem dX6_full_2 : decode cX6_full 2 = .ok (.aload_n 0, 1) := by decide +kernel
theorem dX6_full_3 : decode cX6_full 3 = .ok (.getfield 33, 3) := by decide +kernel
theorem dX6_full_6 : decode cX6_full 6 = .ok (.imul, 1) := by decide +kernel
theorem dX6_full_7 : decode cX6_full 7 = .ok (.ireturn, 1) := by decide +kernel
set_option maxRecDepth 20000 in
theorem ggX6_depth_J9_floorDiv_7cf53 : GoodIn wsX6_depth wsJ9_floorDiv_7cf53 := goodIn_r _ [6] (by decide +kernel) (by decide +kernel)
set_option maxRecDepth 20000 in
theorem gX6_depth_J9_floorDiv_7cf53 : GoodIn wsX6_depth (va_wsS RX6 59 yJ9_floorDiv_7cf53 wsJ9_floorDiv_7cf53) := goodIn_app (goodIn_of _ (by decide +kernel)) ggX6_depth_J9_floorDiv_7cf53
theorem dX6_depth_0 : decode cX6_depth 0 = .ok (.aload_n 0, 1) := by decide +kernel
theorem dX6_depth_1 : decode cX6_depth 1 = .ok (.getfield 9, 3) := by decide +kernel
theorem dX6_depth_4 : decode cX6_depth 4 = .ok (.iconst 0, 1) := by decide +kernel
theorem dX6_depth_5 : decode cX6_depth 5 = .ok (.iaload, 1) := by decide +kernel
theorem dX6_depth_6 : decode cX6_depth 6 = .ok (.aload_n 0, 1) := by decide +kernel
theorem dX6_depth_7 : decode cX6_depth 7 = .ok (.getfield 33, 3) := by decide +kernel
theorem dX6_depth_10 : decode cX6_depth 10 = .ok (.invokestatic 59, 3) := by decide +kernel
theorem dX6_depth_13 : decode cX6_depth 13 = .ok (.ireturn, 1) := by decide +kernel
theorem dX6_level_0 : decode cX6_level 0 = .ok (.aload_n 0, 1) := by decide +kernel
theorem dX6_level_1 : decode cX6_level 1 = .ok (.getfield 30, 3) := by decide +kernel
theorem dX6_level_4 : decode cX6_level 4 = .ok (.iload_n 1, 1) := by decide +kernel
theorem dX6_level_5 : decode cX6_level 5 = .ok (.imul, 1) := by decide +kernel
theorem dX6_level_6 : decode cX6_level 6 = .ok (.aload_n 0, 1) := by decide +kernel
theorem dX6_level_7 : decode cX6_level 7 = .ok (.getfield 9, 3) := by decide +kernel
theorem dX6_level_10 : decode cX6_level 10 = .ok (.iconst 3, 1) := by decide +kernel
theorem dX6_level_11 : decode cX6_level 11 = .ok (.iload_n 1, 1) := by decide +kernel
theorem dX6_level_12 : decode cX6_level 12 = .ok (.iadd, 1) := by decide +kernel
theorem dX6_level_13 : decode cX6_level 13 = .ok (.iaload, 1) := by decide +kernel
theorem dX6_level_14 : decode cX6_level 14 = .ok (.iadd, 1) := by decide +kernel
theorem dX6_level_15 : decode cX6_level 15 = .ok (.ireturn, 1) := by decide +kernel
set_option maxRecDepth 20000 in
theorem ggX6_pound_X6_depth : GoodIn wsX6_pound wsX6_depth := goodIn_r _ [7, 8, 9, 10, 11, 12, 13, 14, 15, 16, 17, 18, 19, 20, 21, 22, 23, 24] (by decide +kernel) (by decide +kernel)
set_option maxRecDepth 20000 in
theorem gX6_pound_X6_depth : GoodIn wsX6_pound (wsV RX6 62 RX6 yX6_depth wsX6_depth) := goodIn_app (goodIn_of _ (by decide +kernel)) ggX6_pound_X6_depth
theorem dX6_pound_0 : decode cX6_pound 0 = .ok (.aload_n 0, 1) := by decide +kernel
theorem dX6_pound_1 : decode cX6_pound 1 = .ok (.getfield 30, 3) := by decide +kernel
theorem dX6_pound_4 : decode cX6_pound 4 = .ok (.aload_n 0, 1) := by decide +kernel
theorem dX6_pound_5 : decode cX6_pound 5 = .ok (.getfield 26, 3) := by decide +kernel
theorem dX6_pound_8 : decode cX6_pound 8 = .ok (.imul, 1) := by decide +kernel
theorem dX6_pound_9 : decode cX6_pound 9 = .ok (.bipush 20, 2) := by decide +kernel
theorem dX6_pound_11 : decode cX6_pound 11 = .ok (.isub, 1) := by decide +kernel
theorem dX6_pound_12 : decode cX6_pound 12 = .ok (.aload_n 0, 1) := by decide +kernel
theorem dX6_pound_13 : decode cX6_pound 13 = .ok (.invokevirtual 62, 3) := by decide +kernel
theorem dX6_pound_16 : decode cX6_pound 16 = .ok (.iadd, 1) := by decide +kernel
theorem dX6_pound_17 : decode cX6_pound 17 = .ok (.ireturn, 1) := by decide +kernel
set_option maxRecDepth 20000 in
theorem ggX6_head_X6_pound : GoodIn wsX6_head wsX6_pound := goodIn_r _ [6, 7, 1, 8, 9, 10, 5, 11, 12, 13, 14, 15, 16, 17, 22, 23, 24, 25, 26, 27, 28, 29, 30, 31, 32] (by decide +kernel) (by decide +kernel)
set_option maxRecDepth 20000 in
theorem gX6_head_X6_pound : GoodIn wsX6_head (wsV RX6 65 RX6 yX6_pound wsX6_pound) := goodIn_app (goodIn_of _ (by decide +kernel)) ggX6_head_X6_pound
set_option maxRecDepth 20000 in
theorem ggX6_head_X6_level : GoodIn wsX6_head wsX6_level := goodIn_r _ [21, 7, 12, 22, 23, 24, 25, 26, 27, 28, 29, 30, 31, 32] (by decide +kernel) (by decide +kernel)
set_option maxRecDepth 20000 in
theorem gX6_head_X6_level : GoodIn wsX6_head (wsV RX6 68 RX6 yX6_level wsX6_level) := goodIn_app (goodIn_of _ (by decide +kernel)) ggX6_head_X6_level
theorem dX6_head_0 : decode cX6_head 0 = .ok (.iload_n 1, 1) := by decide +kernel
theorem dX6_head_1 : decode cX6_head 1 = .ok (.aload_n 0, 1) := by decide +kernel
theorem dX6_head_2 : decode cX6_head 2 = .ok (.getfield 26, 3) := by decide +kernel
theorem dX6_head_5 : decode cX6_head 5 = .ok (.if_icmp .ne 10, 3) := by decide +kernel
theorem dX6_head_8 : decode cX6_head 8 = .ok (.aload_n 0, 1) := by decide +kernel
theorem dX6_head_9 : decode cX6_head 9 = .ok (.invokevirtual 65, 3) := by decide +kernel
theorem dX6_head_12 : decode cX6_head 12 = .ok (.goto 8, 3) := by decide +kernel
theorem dX6_head_15 : decode cX6_head 15 = .ok (.aload_n 0, 1) := by decide +kernel
theorem dX6_head_16 : decode cX6_head 16 = .ok (.iload_n 1, 1) := by decide +kernel
theorem dX6_head_17 : decode cX6_head 17 = .ok (.invokevirtual 68, 3) := by decide +kernel
theorem dX6_head_20 : decode cX6_head 20 = .ok (.istore_n 2, 1) := by decide +kernel
theorem dX6_head_21 : decode cX6_head 21 = .ok (.iload_n 1, 1) := by decide +kernel
theorem dX6_head_22 : decode cX6_head 22 = .ok (.ifCond .ne 7, 3) := by decide +kernel
theorem dX6_head_25 : decode cX6_head 25 = .ok (.iconst 0, 1) := by decide +kernel
theorem dX6_head_26 : decode cX6_head 26 = .ok (.goto 10, 3) := by decide +kernel
theorem dX6_head_29 : decode cX6_head 29 = .ok (.aload_n 0, 1) := by decide +kernel
theorem dX6_head_30 : decode cX6_head 30 = .ok (.iload_n 1, 1) := by decide +kernel
theorem dX6_head_31 : decode cX6_head 31 = .ok (.iconst 1, 1) := by decide +kernel
theorem dX6_head_32 : decode cX6_head 32 = .ok (.isub, 1) := by decide +kernel
theorem dX6_head_33 : decode cX6_head 33 = .ok (.invokevirtual 68, 3) := by decide +kernel
theorem dX6_head_36 : decode cX6_head 36 = .ok (.istore_n 3, 1) := by decide +kernel
theorem dX6_head_37 : decode cX6_head 37 = .ok (.iload_n 2, 1) := by decide +kernel
theorem dX6_head_38 : decode cX6_head 38 = .ok (.iload_n 3, 1) := by decide +kernel
theorem dX6_head_39 : decode cX6_head 39 = .ok (.isub, 1) := by decide +kernel
theorem dX6_head_40 : decode cX6_head 40 = .ok (.ireturn, 1) := by decide +kernel
set_option maxRecDepth 20000 in
theorem ggX6_isUp_X6_isGate : GoodIn wsX6_isUp wsX6_isGate := goodIn_r _ [6, 7, 8, 9, 5, 10, 11, 12, 13, 14, 15, 16, 17, 18, 19, 20, 21] (by decide +kernel) (by decide +kernel)
set_option maxRecDepth 20000 in
theorem gX6_isUp_X6_isGate : GoodIn wsX6_isUp (wsV RX6 72 RX6 yX6_isGate wsX6_isGate) := goodIn_app (goodIn_of _ (by decide +kernel)) ggX6_isUp_X6_isGate
theorem dX6_isUp_0 : decode cX6_isUp 0 = .ok (.aload_n 0, 1) := by decide +kernel
theorem dX6_isUp_1 : decode cX6_isUp 1 = .ok (.iload_n 1, 1) := by decide +kernel
theorem dX6_isUp_2 : decode cX6_isUp 2 = .ok (.invokevirtual 72, 3) := by decide +kernel
theorem dX6_isUp_5 : decode cX6_isUp 5 = .ok (.ifCond .eq 19, 3) := by decide +kernel
theorem dX6_isUp_8 : decode cX6_isUp 8 = .ok (.aload_n 0, 1) := by decide +kernel
theorem dX6_isUp_9 : decode cX6_isUp 9 = .ok (.getfield 9, 3) := by decide +kernel
theorem dX6_isUp_12 : decode cX6_isUp 12 = .ok (.bipush 16, 2) := by decide +kernel
theorem dX6_isUp_14 : decode cX6_isUp 14 = .ok (.iload_n 1, 1) := by decide +kernel
theorem dX6_isUp_15 : decode cX6_isUp 15 = .ok (.iadd, 1) := by decide +kernel
theorem dX6_isUp_16 : decode cX6_isUp 16 = .ok (.iaload, 1) := by decide +kernel
theorem dX6_isUp_17 : decode cX6_isUp 17 = .ok (.ifCond .le 7, 3) := by decide +kernel
theorem dX6_isUp_20 : decode cX6_isUp 20 = .ok (.iconst 1, 1) := by decide +kernel
theorem dX6_isUp_21 : decode cX6_isUp 21 = .ok (.goto 4, 3) := by decide +kernel
theorem dX6_isUp_24 : decode cX6_isUp 24 = .ok (.iconst 0, 1) := by decide +kernel
theorem dX6_isUp_25 : decode cX6_isUp 25 = .ok (.ireturn, 1) := by decide +kernel
set_option maxRecDepth 20000 in
theorem ggX6_isOpenGate_X6_isGate : GoodIn wsX6_isOpenGate wsX6_isGate := goodIn_r _ [6, 7, 8, 9, 5, 10, 11, 12, 13, 14, 15, 16, 17, 18, 19, 20, 21] (by decide +kernel) (by decide +kernel)
set_option maxRecDepth 20000 in
theorem gX6_isOpenGate_X6_isGate : GoodIn wsX6_isOpenGate (wsV RX6 72 RX6 yX6_isGate wsX6_isGate) := goodIn_app (goodIn_of _ (by decide +kernel)) ggX6_isOpenGate_X6_isGate
theorem dX6_isOpenGate_0 : decode cX6_isOpenGate 0 = .ok (.aload_n 0, 1) := by decide +kernel
theorem dX6_isOpenGate_1 : decode cX6_isOpenGate 1 = .ok (.iload_n 1, 1) := by decide +kernel
theorem dX6_isOpenGate_2 : decode cX6_isOpenGate 2 = .ok (.invokevirtual 72, 3) := by decide +kernel
theorem dX6_isOpenGate_5 : decode cX6_isOpenGate 5 = .ok (.ifCond .eq 20, 3) := by decide +kernel
theorem dX6_isOpenGate_8 : decode cX6_isOpenGate 8 = .ok (.aload_n 0, 1) := by decide +kernel
theorem dX6_isOpenGate_9 : decode cX6_isOpenGate 9 = .ok (.getfield 9, 3) := by decide +kernel
theorem dX6_isOpenGate_12 : decode cX6_isOpenGate 12 = .ok (.bipush 9, 2) := by decide +kernel
theorem dX6_isOpenGate_14 : decode cX6_isOpenGate 14 = .ok (.iload_n 1, 1) := by decide +kernel
theorem dX6_isOpenGate_15 : decode cX6_isOpenGate 15 = .ok (.iadd, 1) := by decide +kernel
theorem dX6_isOpenGate_16 : decode cX6_isOpenGate 16 = .ok (.iaload, 1) := by decide +kernel
theorem dX6_isOpenGate_17 : decode cX6_isOpenGate 17 = .ok (.iconst 1, 1) := by decide +kernel
theorem dX6_isOpenGate_18 : decode cX6_isOpenGate 18 = .ok (.if_icmp .ne 7, 3) := by decide +kernel
theorem dX6_isOpenGate_21 : decode cX6_isOpenGate 21 = .ok (.iconst 1, 1) := by decide +kernel
theorem dX6_isOpenGate_22 : decode cX6_isOpenGate 22 = .ok (.goto 4, 3) := by decide +kernel
theorem dX6_isOpenGate_25 : decode cX6_isOpenGate 25 = .ok (.iconst 0, 1) := by decide +kernel
theorem dX6_isOpenGate_26 : decode cX6_isOpenGate 26 = .ok (.ireturn, 1) := by decide +kernel
set_option maxRecDepth 20000 in
theorem ggX6_obstacleToOpen_X6_isOpenGate : GoodIn wsX6_obstacleToOpen wsX6_isOpenGate := goodIn_r _ [5, 6, 7, 8, 9, 4, 10, 11, 12, 13, 14, 41, 42, 43, 44, 45, 46, 47, 48, 49, 50, 51] (by decide +kernel) (by decide +kernel)
set_option maxRecDepth 20000 in
theorem gX6_obstacleToOpen_X6_isOpenGate : GoodIn wsX6_obstacleToOpen (wsV RX6 76 RX6 yX6_isOpenGate wsX6_isOpenGate) := goodIn_app (goodIn_of _ (by decide +kernel)) ggX6_obstacleToOpen_X6_isOpenGate
set_option maxRecDepth 20000 in
theorem ggX6_obstacleToOpen_X6_isUp : GoodIn wsX6_obstacleToOpen wsX6_isUp := goodIn_r _ [18, 6, 7, 8, 9, 4, 10, 11, 12, 13, 14, 41, 42, 43, 44, 45, 46, 47, 48, 49, 50, 51] (by decide +kernel) (by decide +kernel)
set_option maxRecDepth 20000 in
theorem gX6_obstacleToOpen_X6_isUp : GoodIn wsX6_obstacleToOpen (wsV RX6 79 RX6 yX6_isUp wsX6_isUp) := goodIn_app (goodIn_of _ (by decide +kernel)) ggX6_obstacleToOpen_X6_isUp
set_option maxRecDepth 20000 in
theorem ggX6_obstacleToOpen_X6_head : GoodIn wsX6_obstacleToOpen wsX6_head := goodIn_r _ [22, 11, 23, 24, 25, 4, 26, 27, 28, 29, 30, 31, 6, 32, 33, 34, 35, 36, 37, 38, 39, 40, 41, 42, 43, 44, 45, 46, 47, 48, 49, 50, 51] (by decide +kernel) (by decide +kernel)
set_option maxRecDepth 20000 in
theorem gX6_obstacleToOpen_X6_head : GoodIn wsX6_obstacleToOpen (wsV RX6 82 RX6 yX6_head wsX6_head) := goodIn_app (goodIn_of _ (by decide +kernel)) ggX6_obstacleToOpen_X6_head
theorem dX6_obstacleToOpen_0 : decode cX6_obstacleToOpen 0 = .ok (.aload_n 0, 1) := by decide +kernel
theorem dX6_obstacleToOpen_1 : decode cX6_obstacleToOpen 1 = .ok (.iload_n 1, 1) := by decide +kernel
theorem dX6_obstacleToOpen_2 : decode cX6_obstacleToOpen 2 = .ok (.invokevirtual 76, 3) := by decide +kernel
theorem dX6_obstacleToOpen_5 : decode cX6_obstacleToOpen 5 = .ok (.ifCond .eq 5, 3) := by decide +kernel
theorem dX6_obstacleToOpen_8 : decode cX6_obstacleToOpen 8 = .ok (.iconst 1, 1) := by decide +kernel
theorem dX6_obstacleToOpen_9 : decode cX6_obstacleToOpen 9 = .ok (.ireturn, 1) := by decide +kernel
theorem dX6_obstacleToOpen_10 : decode cX6_obstacleToOpen 10 = .ok (.aload_n 0, 1) := by decide +kernel
theorem dX6_obstacleToOpen_11 : decode cX6_obstacleToOpen 11 = .ok (.iload_n 1, 1) := by decide +kernel
theorem dX6_obstacleToOpen_12 : decode cX6_obstacleToOpen 12 = .ok (.invokevirtual 79, 3) := by decide +kernel
theorem dX6_obstacleToOpen_15 : decode cX6_obstacleToOpen 15 = .ok (.ifCond .ne 23, 3) := by decide +kernel
theorem dX6_obstacleToOpen_18 : decode cX6_obstacleToOpen 18 = .ok (.aload_n 0, 1) := by decide +kernel
theorem dX6_obstacleToOpen_19 : decode cX6_obstacleToOpen 19 = .ok (.iload_n 1, 1) := by decide +kernel
theorem dX6_obstacleToOpen_20 : decode cX6_obstacleToOpen 20 = .ok (.iconst 1, 1) := by decide +kernel
theorem dX6_obstacleToOpen_21 : decode cX6_obstacleToOpen 21 = .ok (.isub, 1) := by decide +kernel
theorem dX6_obstacleToOpen_22 : decode cX6_obstacleToOpen 22 = .ok (.invokevirtual 79, 3) := by decide +kernel
theorem dX6_obstacleToOpen_25 : decode cX6_obstacleToOpen 25 = .ok (.ifCond .ne 13, 3) := by decide +kernel
theorem dX6_obstacleToOpen_28 : decode cX6_obstacleToOpen 28 = .ok (.aload_n 0, 1) := by decide +kernel
theorem dX6_obstacleToOpen_29 : decode cX6_obstacleToOpen 29 = .ok (.iload_n 1, 1) := by decide +kernel
theorem dX6_obstacleToOpen_30 : decode cX6_obstacleToOpen 30 = .ok (.iconst 1, 1) := by decide +kernel
theorem dX6_obstacleToOpen_31 : decode cX6_obstacleToOpen 31 = .ok (.iadd, 1) := by decide +kernel
theorem dX6_obstacleToOpen_32 : decode cX6_obstacleToOpen 32 = .ok (.invokevirtual 79, 3) := by decide +kernel
theorem dX6_obstacleToOpen_35 : decode cX6_obstacleToOpen 35 = .ok (.ifCond .eq 5, 3) := by decide +kernel
theorem dX6_obstacleToOpen_38 : decode cX6_obstacleToOpen 38 = .ok (.iconst 2, 1) := by decide +kernel
theorem dX6_obstacleToOpen_39 : decode cX6_obstacleToOpen 39 = .ok (.ireturn, 1) := by decide +kernel
theorem dX6_obstacleToOpen_40 : decode cX6_obstacleToOpen 40 = .ok (.aload_n 0, 1) := by decide +kernel
theorem dX6_obstacleToOpen_41 : decode cX6_obstacleToOpen 41 = .ok (.iload_n 1, 1) := by decide +kernel
theorem dX6_obstacleToOpen_42 : decode cX6_obstacleToOpen 42 = .ok (.invokevirtual 82, 3) := by decide +kernel
theorem dX6_obstacleToOpen_45 : decode cX6_obstacleToOpen 45 = .ok (.ifCond .eq 7, 3) := by decide +kernel
theorem dX6_obstacleToOpen_48 : decode cX6_obstacleToOpen 48 = .ok (.iconst 3, 1) := by decide +kernel
theorem dX6_obstacleToOpen_49 : decode cX6_obstacleToOpen 49 = .ok (.goto 4, 3) := by decide +kernel
theorem dX6_obstacleToOpen_52 : decode cX6_obstacleToOpen 52 = .ok (.iconst 0, 1) := by decide +kernel
theorem dX6_obstacleToOpen_53 : decode cX6_obstacleToOpen 53 = .ok (.ireturn, 1) := by decide +kernel
set_option maxRecDepth 20000 in
theorem ggX6_flowFromPound_X6_pound : GoodIn wsX6_flowFromPound wsX6_pound := goodIn_r _ [7, 8, 1, 9, 10, 11, 6, 12, 2, 13, 14, 15, 16, 17, 22, 23, 24, 25, 26, 27, 28, 29, 30, 31, 32] (by decide +kernel) (by decide +kernel)
set_option maxRecDepth 20000 in
theorem gX6_flowFromPound_X6_pound : GoodIn wsX6_flowFromPound (wsV RX6 65 RX6 yX6_pound wsX6_pound) := goodIn_app (goodIn_of _ (by decide +kernel)) ggX6_flowFromPound_X6_pound
set_option maxRecDepth 20000 in
theorem ggX6_flowFromPound_X6_level : GoodIn wsX6_flowFromPound wsX6_level := goodIn_r _ [21, 8, 2, 22, 23, 24, 25, 26, 27, 28, 29, 30, 31, 32] (by decide +kernel) (by decide +kernel)
set_option maxRecDepth 20000 in
theorem gX6_flowFromPound_X6_level : GoodIn wsX6_flowFromPound (wsV RX6 68 RX6 yX6_level wsX6_level) := goodIn_app (goodIn_of _ (by decide +kernel)) ggX6_flowFromPound_X6_level
theorem dX6_flowFromPound_0 : decode cX6_flowFromPound 0 = .ok (.iconst 0, 1) := by decide +kernel
theorem dX6_flowFromPound_1 : decode cX6_flowFromPound 1 = .ok (.istore_n 2, 1) := by decide +kernel
theorem dX6_flowFromPound_2 : decode cX6_flowFromPound 2 = .ok (.iload_n 2, 1) := by decide +kernel
theorem dX6_flowFromPound_3 : decode cX6_flowFromPound 3 = .ok (.iload_n 1, 1) := by decide +kernel
theorem dX6_flowFromPound_4 : decode cX6_flowFromPound 4 = .ok (.if_icmp .ge 53, 3) := by decide +kernel
theorem dX6_flowFromPound_7 : decode cX6_flowFromPound 7 = .ok (.aload_n 0, 1) := by decide +kernel
theorem dX6_flowFromPound_8 : decode cX6_flowFromPound 8 = .ok (.invokevirtual 65, 3) := by decide +kernel
theorem dX6_flowFromPound_11 : decode cX6_flowFromPound 11 = .ok (.aload_n 0, 1) := by decide +kernel
theorem dX6_flowFromPound_12 : decode cX6_flowFromPound 12 = .ok (.aload_n 0, 1) := by decide +kernel
theorem dX6_flowFromPound_13 : decode cX6_flowFromPound 13 = .ok (.getfield 26, 3) := by decide +kernel
theorem dX6_flowFromPound_16 : decode cX6_flowFromPound 16 = .ok (.iconst 1, 1) := by decide +kernel
theorem dX6_flowFromPound_17 : decode cX6_flowFromPound 17 = .ok (.isub, 1) := by decide +kernel
theorem dX6_flowFromPound_18 : decode cX6_flowFromPound 18 = .ok (.invokevirtual 68, 3) := by decide +kernel
theorem dX6_flowFromPound_21 : decode cX6_flowFromPound 21 = .ok (.if_icmp .le 36, 3) := by decide +kernel
theorem dX6_flowFromPound_24 : decode cX6_flowFromPound 24 = .ok (.aload_n 0, 1) := by decide +kernel
theorem dX6_flowFromPound_25 : decode cX6_flowFromPound 25 = .ok (.getfield 9, 3) := by decide +kernel
theorem dX6_flowFromPound_28 : decode cX6_flowFromPound 28 = .ok (.iconst 0, 1) := by decide +kernel
theorem dX6_flowFromPound_29 : decode cX6_flowFromPound 29 = .ok (.dup2, 1) := by decide +kernel
theorem dX6_flowFromPound_30 : decode cX6_flowFromPound 30 = .ok (.iaload, 1) := by decide +kernel
theorem dX6_flowFromPound_31 : decode cX6_flowFromPound 31 = .ok (.iconst 1, 1) := by decide +kernel
theorem dX6_flowFromPound_32 : decode cX6_flowFromPound 32 = .ok (.isub, 1) := by decide +kernel
theorem dX6_flowFromPound_33 : decode cX6_flowFromPound 33 = .ok (.iastore, 1) := by decide +kernel
theorem dX6_flowFromPound_34 : decode cX6_flowFromPound 34 = .ok (.aload_n 0, 1) := by decide +kernel
theorem dX6_flowFromPound_35 : decode cX6_flowFromPound 35 = .ok (.getfield 9, 3) := by decide +kernel
theorem dX6_flowFromPound_38 : decode cX6_flowFromPound 38 = .ok (.iconst 3, 1) := by decide +kernel
theorem dX6_flowFromPound_39 : decode cX6_flowFromPound 39 = .ok (.aload_n 0, 1) := by decide +kernel
theorem dX6_flowFromPound_40 : decode cX6_flowFromPound 40 = .ok (.getfield 26, 3) := by decide +kernel
theorem dX6_flowFromPound_43 : decode cX6_flowFromPound 43 = .ok (.iadd, 1) := by decide +kernel
theorem dX6_flowFromPound_44 : decode cX6_flowFromPound 44 = .ok (.iconst 1, 1) := by decide +kernel
theorem dX6_flowFromPound_45 : decode cX6_flowFromPound 45 = .ok (.isub, 1) := by decide +kernel
theorem dX6_flowFromPound_46 : decode cX6_flowFromPound 46 = .ok (.dup2, 1) := by decide +kernel
theorem dX6_flowFromPound_47 : decode cX6_flowFromPound 47 = .ok (.iaload, 1) := by decide +kernel
theorem dX6_flowFromPound_48 : decode cX6_flowFromPound 48 = .ok (.iconst 1, 1) := by decide +kernel
theorem dX6_flowFromPound_49 : decode cX6_flowFromPound 49 = .ok (.iadd, 1) := by decide +kernel
theorem dX6_flowFromPound_50 : decode cX6_flowFromPound 50 = .ok (.iastore, 1) := by decide +kernel
theorem dX6_flowFromPound_51 : decode cX6_flowFromPound 51 = .ok (.iinc 2 1, 3) := by decide +kernel
theorem dX6_flowFromPound_54 : decode cX6_flowFromPound 54 = .ok (.goto (-52), 3) := by decide +kernel
theorem dX6_flowFromPound_57 : decode cX6_flowFromPound 57 = .ok (.iload_n 2, 1) := by decide +kernel
theorem dX6_flowFromPound_58 : decode cX6_flowFromPound 58 = .ok (.ireturn, 1) := by decide +kernel
set_option maxRecDepth 20000 in
theorem ggX6_flow_X6_flowFromPound : GoodIn wsX6_flow wsX6_flowFromPound := goodIn_r _ [12, 1, 2, 13, 14, 15, 11, 16, 7, 17, 18, 19, 20, 21, 22, 23, 24, 25, 26, 27, 28, 29, 30, 31, 32, 33, 34, 35, 36, 37, 38, 39, 40] (by decide +kernel) (by decide +kernel)
set_option maxRecDepth 20000 in
theorem gX6_flow_X6_flowFromPound : GoodIn wsX6_flow (wsV RX6 85 RX6 yX6_flowFromPound wsX6_flowFromPound) := goodIn_app (goodIn_of _ (by decide +kernel)) ggX6_flow_X6_flowFromPound
theorem dX6_flow_0 : decode cX6_flow 0 = .ok (.iload_n 1, 1) := by decide +kernel
theorem dX6_flow_1 : decode cX6_flow 1 = .ok (.aload_n 0, 1) := by decide +kernel
theorem dX6_flow_2 : decode cX6_flow 2 = .ok (.getfield 26, 3) := by decide +kernel
theorem dX6_flow_5 : decode cX6_flow 5 = .ok (.if_icmp .ne 9, 3) := by decide +kernel
theorem dX6_flow_8 : decode cX6_flow 8 = .ok (.aload_n 0, 1) := by decide +kernel
theorem dX6_flow_9 : decode cX6_flow 9 = .ok (.iload_n 2, 1) := by decide +kernel
theorem dX6_flow_10 : decode cX6_flow 10 = .ok (.invokevirtual 85, 3) := by decide +kernel
theorem dX6_flow_13 : decode cX6_flow 13 = .ok (.ireturn, 1) := by decide +kernel
theorem dX6_flow_14 : decode cX6_flow 14 = .ok (.iload_n 2, 1) := by decide +kernel
theorem dX6_flow_15 : decode cX6_flow 15 = .ok (.aload_n 0, 1) := by decide +kernel
theorem dX6_flow_16 : decode cX6_flow 16 = .ok (.getfield 9, 3) := by decide +kernel
theorem dX6_flow_19 : decode cX6_flow 19 = .ok (.iconst 3, 1) := by decide +kernel
theorem dX6_flow_20 : decode cX6_flow 20 = .ok (.iload_n 1, 1) := by decide +kernel
theorem dX6_flow_21 : decode cX6_flow 21 = .ok (.iadd, 1) := by decide +kernel
theorem dX6_flow_22 : decode cX6_flow 22 = .ok (.iaload, 1) := by decide +kernel
theorem dX6_flow_23 : decode cX6_flow 23 = .ok (.invokestatic 43, 3) := by decide +kernel
theorem dX6_flow_26 : decode cX6_flow 26 = .ok (.istore_n 3, 1) := by decide +kernel
theorem dX6_flow_27 : decode cX6_flow 27 = .ok (.iload_n 1, 1) := by decide +kernel
theorem dX6_flow_28 : decode cX6_flow 28 = .ok (.ifCond .le 40, 3) := by decide +kernel
theorem dX6_flow_31 : decode cX6_flow 31 = .ok (.iload_n 3, 1) := by decide +kernel
theorem dX6_flow_32 : decode cX6_flow 32 = .ok (.aload_n 0, 1) := by decide +kernel
theorem dX6_flow_33 : decode cX6_flow 33 = .ok (.getfield 30, 3) := by decide +kernel
theorem dX6_flow_36 : decode cX6_flow 36 = .ok (.aload_n 0, 1) := by decide +kernel
theorem dX6_flow_37 : decode cX6_flow 37 = .ok (.getfield 9, 3) := by decide +kernel
theorem dX6_flow_40 : decode cX6_flow 40 = .ok (.iconst 3, 1) := by decide +kernel
theorem dX6_flow_41 : decode cX6_flow 41 = .ok (.iload_n 1, 1) := by decide +kernel
theorem dX6_flow_42 : decode cX6_flow 42 = .ok (.iadd, 1) := by decide +kernel
theorem dX6_flow_43 : decode cX6_flow 43 = .ok (.iconst 1, 1) := by decide +kernel
theorem dX6_flow_44 : decode cX6_flow 44 = .ok (.isub, 1) := by decide +kernel
theorem dX6_flow_45 : decode cX6_flow 45 = .ok (.iaload, 1) := by decide +kernel
theorem dX6_flow_46 : decode cX6_flow 46 = .ok (.isub, 1) := by decide +kernel
theorem dX6_flow_47 : decode cX6_flow 47 = .ok (.invokestatic 43, 3) := by decide +kernel
theorem dX6_flow_50 : decode cX6_flow 50 = .ok (.istore_n 3, 1) := by decide +kernel
theorem dX6_flow_51 : decode cX6_flow 51 = .ok (.aload_n 0, 1) := by decide +kernel
theorem dX6_flow_52 : decode cX6_flow 52 = .ok (.getfield 9, 3) := by decide +kernel
theorem dX6_flow_55 : decode cX6_flow 55 = .ok (.iconst 3, 1) := by decide +kernel
theorem dX6_flow_56 : decode cX6_flow 56 = .ok (.iload_n 1, 1) := by decide +kernel
theorem dX6_flow_57 : decode cX6_flow 57 = .ok (.iadd, 1) := by decide +kernel
theorem dX6_flow_58 : decode cX6_flow 58 = .ok (.iconst 1, 1) := by decide +kernel
theorem dX6_flow_59 : decode cX6_flow 59 = .ok (.isub, 1) := by decide +kernel
theorem dX6_flow_60 : decode cX6_flow 60 = .ok (.dup2, 1) := by decide +kernel
theorem dX6_flow_61 : decode cX6_flow 61 = .ok (.iaload, 1) := by decide +kernel
theorem dX6_flow_62 : decode cX6_flow 62 = .ok (.iload_n 3, 1) := by decide +kernel
theorem dX6_flow_63 : decode cX6_flow 63 = .ok (.iadd, 1) := by decide +kernel
theorem dX6_flow_64 : decode cX6_flow 64 = .ok (.iastore, 1) := by decide +kernel
theorem dX6_flow_65 : decode cX6_flow 65 = .ok (.goto 13, 3) := by decide +kernel
theorem dX6_flow_68 : decode cX6_flow 68 = .ok (.aload_n 0, 1) := by decide +kernel
theorem dX6_flow_69 : decode cX6_flow 69 = .ok (.getfield 9, 3) := by decide +kernel
theorem dX6_flow_72 : decode cX6_flow 72 = .ok (.iconst 1, 1) := by decide +kernel
theorem dX6_flow_73 : decode cX6_flow 73 = .ok (.dup2, 1) := by decide +kernel
theorem dX6_flow_74 : decode cX6_flow 74 = .ok (.iaload, 1) := by decide +kernel
theorem dX6_flow_75 : decode cX6_flow 75 = .ok (.iload_n 3, 1) := by decide +kernel
theorem dX6_flow_76 : decode cX6_flow 76 = .ok (.iadd, 1) := by decide +kernel
theorem dX6_flow_77 : decode cX6_flow 77 = .ok (.iastore, 1) := by decide +kernel
theorem dX6_flow_78 : decode cX6_flow 78 = .ok (.aload_n 0, 1) := by decide +kernel
theorem dX6_flow_79 : decode cX6_flow 79 = .ok (.getfield 9, 3) := by decide +kernel
theorem dX6_flow_82 : decode cX6_flow 82 = .ok (.iconst 3, 1) := by decide +kernel
theorem dX6_flow_83 : decode cX6_flow 83 = .ok (.iload_n 1, 1) := by decide +kernel
theorem dX6_flow_84 : decode cX6_flow 84 = .ok (.iadd, 1) := by decide +kernel
theorem dX6_flow_85 : decode cX6_flow 85 = .ok (.dup2, 1) := by decide +kernel
theorem dX6_flow_86 : decode cX6_flow 86 = .ok (.iaload, 1) := by decide +kernel
theorem dX6_flow_87 : decode cX6_flow 87 = .ok (.iload_n 3, 1) := by decide +kernel
theorem dX6_flow_88 : decode cX6_flow 88 = .ok (.isub, 1) := by decide +kernel
theorem dX6_flow_89 : decode cX6_flow 89 = .ok (.iastore, 1) := by decide +kernel
theorem dX6_flow_90 : decode cX6_flow 90 = .ok (.iload_n 3, 1) := by decide +kernel
theorem dX6_flow_91 : decode cX6_flow 91 = .ok (.ireturn, 1) := by decide +kernel
set_option maxRecDepth 20000 in
theorem ggX6_flowAll_X6_flow : GoodIn wsX6_flowAll wsX6_flow := goodIn_r _ [7, 1, 2, 8, 9, 10, 11, 12, 13, 14, 15, 6, 16, 17, 18, 19, 20, 21, 22, 23, 24, 25, 26, 27, 28, 29, 30, 31, 32, 33, 34, 35, 36, 37, 38, 39, 40, 41, 42, 43, 44] (by decide +kernel) (by decide +kernel)
set_option maxRecDepth 20000 in
theorem gX6_flowAll_X6_flow : GoodIn wsX6_flowAll (wsV RX6 88 RX6 yX6_flow wsX6_flow) := goodIn_app (goodIn_of _ (by decide +kernel)) ggX6_flowAll_X6_flow
theorem dX6_flowAll_0 : decode cX6_flowAll 0 = .ok (.iconst 0, 1) := by decide +kernel
theorem dX6_flowAll_1 : decode cX6_flowAll 1 = .ok (.istore_n 1, 1) := by decide +kernel
theorem dX6_flowAll_2 : decode cX6_flowAll 2 = .ok (.iconst 0, 1) := by decide +kernel
theorem dX6_flowAll_3 : decode cX6_flowAll 3 = .ok (.istore_n 2, 1) := by decide +kernel
theorem dX6_flowAll_4 : decode cX6_flowAll 4 = .ok (.iload_n 2, 1) := by decide +kernel
theorem dX6_flowAll_5 : decode cX6_flowAll 5 = .ok (.aload_n 0, 1) := by decide +kernel
theorem dX6_flowAll_6 : decode cX6_flowAll 6 = .ok (.getfield 26, 3) := by decide +kernel
theorem dX6_flowAll_9 : decode cX6_flowAll 9 = .ok (.if_icmp .gt 28, 3) := by decide +kernel
theorem dX6_flowAll_12 : decode cX6_flowAll 12 = .ok (.iload_n 1, 1) := by decide +kernel
theorem dX6_flowAll_13 : decode cX6_flowAll 13 = .ok (.aload_n 0, 1) := by decide +kernel
theorem dX6_flowAll_14 : decode cX6_flowAll 14 = .ok (.iload_n 2, 1) := by decide +kernel
theorem dX6_flowAll_15 : decode cX6_flowAll 15 = .ok (.iconst 4, 1) := by decide +kernel
theorem dX6_flowAll_16 : decode cX6_flowAll 16 = .ok (.aload_n 0, 1) := by decide +kernel
theorem dX6_flowAll_17 : decode cX6_flowAll 17 = .ok (.getfield 9, 3) := by decide +kernel
theorem dX6_flowAll_20 : decode cX6_flowAll 20 = .ok (.bipush 16, 2) := by decide +kernel
theorem dX6_flowAll_22 : decode cX6_flowAll 22 = .ok (.iload_n 2, 1) := by decide +kernel
theorem dX6_flowAll_23 : decode cX6_flowAll 23 = .ok (.iadd, 1) := by decide +kernel
theorem dX6_flowAll_24 : decode cX6_flowAll 24 = .ok (.iaload, 1) := by decide +kernel
theorem dX6_flowAll_25 : decode cX6_flowAll 25 = .ok (.imul, 1) := by decide +kernel
theorem dX6_flowAll_26 : decode cX6_flowAll 26 = .ok (.invokevirtual 88, 3) := by decide +kernel
theorem dX6_flowAll_29 : decode cX6_flowAll 29 = .ok (.iadd, 1) := by decide +kernel
theorem dX6_flowAll_30 : decode cX6_flowAll 30 = .ok (.istore_n 1, 1) := by decide +kernel
theorem dX6_flowAll_31 : decode cX6_flowAll 31 = .ok (.iinc 2 1, 3) := by decide +kernel
theorem dX6_flowAll_34 : decode cX6_flowAll 34 = .ok (.goto (-30), 3) := by decide +kernel
theorem dX6_flowAll_37 : decode cX6_flowAll 37 = .ok (.aload_n 0, 1) := by decide +kernel
theorem dX6_flowAll_38 : decode cX6_flowAll 38 = .ok (.getfield 9, 3) := by decide +kernel
theorem dX6_flowAll_41 : decode cX6_flowAll 41 = .ok (.iconst 2, 1) := by decide +kernel
theorem dX6_flowAll_42 : decode cX6_flowAll 42 = .ok (.dup2, 1) := by decide +kernel
theorem dX6_flowAll_43 : decode cX6_flowAll 43 = .ok (.iaload, 1) := by decide +kernel
theorem dX6_flowAll_44 : decode cX6_flowAll 44 = .ok (.iconst 1, 1) := by decide +kernel
theorem dX6_flowAll_45 : decode cX6_flowAll 45 = .ok (.iadd, 1) := by decide +kernel
theorem dX6_flowAll_46 : decode cX6_flowAll 46 = .ok (.iastore, 1) := by decide +kernel
theorem dX6_flowAll_47 : decode cX6_flowAll 47 = .ok (.iload_n 1, 1) := by decide +kernel
theorem dX6_flowAll_48 : decode cX6_flowAll 48 = .ok (.ireturn, 1) := by decide +kernel
set_option maxRecDepth 20000 in
theorem ggX6_runFor_X6_flow : GoodIn wsX6_runFor wsX6_flow := goodIn_r _ [6, 7, 1, 8, 9, 10, 11, 12, 13, 14, 15, 5, 16, 17, 18, 19, 20, 21, 22, 23, 24, 25, 26, 27, 28, 29, 30, 31, 32, 33, 34, 35, 36, 37, 38, 39, 40, 41, 42, 43, 44] (by decide +kernel) (by decide +kernel)
set_option maxRecDepth 20000 in
theorem gX6_runFor_X6_flow : GoodIn wsX6_runFor (wsV RX6 88 RX6 yX6_flow wsX6_flow) := goodIn_app (goodIn_of _ (by decide +kernel)) ggX6_runFor_X6_flow
theorem dX6_runFor_0 : decode cX6_runFor 0 = .ok (.aload_n 0, 1) := by decide +kernel
theorem dX6_runFor_1 : decode cX6_runFor 1 = .ok (.iload_n 1, 1) := by decide +kernel
theorem dX6_runFor_2 : decode cX6_runFor 2 = .ok (.iload_n 2, 1) := by decide +kernel
theorem dX6_runFor_3 : decode cX6_runFor 3 = .ok (.invokevirtual 88, 3) := by decide +kernel
theorem dX6_runFor_6 : decode cX6_runFor 6 = .ok (.istore_n 3, 1) := by decide +kernel
theorem dX6_runFor_7 : decode cX6_runFor 7 = .ok (.iload_n 3, 1) := by decide +kernel
theorem dX6_runFor_8 : decode cX6_runFor 8 = .ok (.iload_n 2, 1) := by decide +kernel
