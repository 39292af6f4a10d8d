theorem dX0_init_0 : decode cX0_init 0 = .ok (.aload_n 0, 1) := by decide +kernel
theorem dX0_init_1 : decode cX0_init 1 = .ok (.invokespecial 3, 3) := by decide +kernel
theorem dX0_init_4 : decode cX0_init 4 = .ok (.aload_n 0, 1) := by decide +kernel
theorem dX0_init_5 : decode cX0_init 5 = .ok (.bipush 10, 2) := by decide +kernel
theorem dX0_init_7 : decode cX0_init 7 = .ok (.newarray .int, 2) := by decide +kernel
theorem dX0_init_9 : decode cX0_init 9 = .ok (.putfield 9, 3) := by decide +kernel
theorem dX0_init_12 : decode cX0_init 12 = .ok (.aload_n 0, 1) := by decide +kernel
theorem dX0_init_13 : decode cX0_init 13 = .ok (.bipush 10, 2) := by decide +kernel
theorem dX0_init_15 : decode cX0_init 15 = .ok (.newarray .int, 2) := by decide +kernel
theorem dX0_init_17 : decode cX0_init 17 = .ok (.putfield 15, 3) := by decide +kernel
theorem dX0_init_20 : decode cX0_init 20 = .ok (.aload_n 0, 1) := by decide +kernel
theorem dX0_init_21 : decode cX0_init 21 = .ok (.bipush 10, 2) := by decide +kernel
theorem dX0_init_23 : decode cX0_init 23 = .ok (.newarray .int, 2) := by decide +kernel
theorem dX0_init_25 : decode cX0_init 25 = .ok (.putfield 18, 3) := by decide +kernel
theorem dX0_init_28 : decode cX0_init 28 = .ok (.return_, 1) := by decide +kernel
theorem dX0_copyFrom_0 : decode cX0_copyFrom 0 = .ok (.aload_n 1, 1) := by decide +kernel
theorem dX0_copyFrom_1 : decode cX0_copyFrom 1 = .ok (.getfield 9, 3) := by decide +kernel
theorem dX0_copyFrom_4 : decode cX0_copyFrom 4 = .ok (.iconst 0, 1) := by decide +kernel
theorem dX0_copyFrom_5 : decode cX0_copyFrom 5 = .ok (.aload_n 0, 1) := by decide +kernel
theorem dX0_copyFrom_6 : decode cX0_copyFrom 6 = .ok (.getfield 9, 3) := by decide +kernel
theorem dX0_copyFrom_9 : decode cX0_copyFrom 9 = .ok (.iconst 0, 1) := by decide +kernel
theorem dX0_copyFrom_10 : decode cX0_copyFrom 10 = .ok (.bipush 10, 2) := by decide +kernel
theorem dX0_copyFrom_12 : decode cX0_copyFrom 12 = .ok (.invokestatic 21, 3) := by decide +kernel
theorem dX0_copyFrom_15 : decode cX0_copyFrom 15 = .ok (.aload_n 1, 1) := by decide +kernel
theorem dX0_copyFrom_16 : decode cX0_copyFrom 16 = .ok (.getfield 15, 3) := by decide +kernel
theorem dX0_copyFrom_19 : decode cX0_copyFrom 19 = .ok (.iconst 0, 1) := by decide +kernel
theorem dX0_copyFrom_20 : decode cX0_copyFrom 20 = .ok (.aload_n 0, 1) := by decide +kernel
theorem dX0_copyFrom_21 : decode cX0_copyFrom 21 = .ok (.getfield 15, 3) := by decide +kernel
theorem dX0_copyFrom_24 : decode cX0_copyFrom 24 = .ok (.iconst 0, 1) := by decide +kernel
theorem dX0_copyFrom_25 : decode cX0_copyFrom 25 = .ok (.bipush 10, 2) := by decide +kernel
theorem dX0_copyFrom_27 : decode cX0_copyFrom 27 = .ok (.invokestatic 21, 3) := by decide +kernel
theorem dX0_copyFrom_30 : decode cX0_copyFrom 30 = .ok (.aload_n 1, 1) := by decide +kernel
theorem dX0_copyFrom_31 : decode cX0_copyFrom 31 = .ok (.getfield 18, 3) := by decide +kernel
theorem dX0_copyFrom_34 : decode cX0_copyFrom 34 = .ok (.iconst 0, 1) := by decide +kernel
theorem dX0_copyFrom_35 : decode cX0_copyFrom 35 = .ok (.aload_n 0, 1) := by decide +kernel
theorem dX0_copyFrom_36 : decode cX0_copyFrom 36 = .ok (.getfield 18, 3) := by decide +kernel
theorem dX0_copyFrom_39 : decode cX0_copyFrom 39 = .ok (.iconst 0, 1) := by decide +kernel
theorem dX0_copyFrom_40 : decode cX0_copyFrom 40 = .ok (.bipush 10, 2) := by decide +kernel
theorem dX0_copyFrom_42 : decode cX0_copyFrom 42 = .ok (.invokestatic 21, 3) := by decide +kernel
theorem dX0_copyFrom_45 : decode cX0_copyFrom 45 = .ok (.aload_n 0, 1) := by decide +kernel
theorem dX0_copyFrom_46 : decode cX0_copyFrom 46 = .ok (.aload_n 1, 1) := by decide +kernel
theorem dX0_copyFrom_47 : decode cX0_copyFrom 47 = .ok (.getfield 27, 3) := by decide +kernel
theorem dX0_copyFrom_50 : decode cX0_copyFrom 50 = .ok (.putfield 27, 3) := by decide +kernel
theorem dX0_copyFrom_53 : decode cX0_copyFrom 53 = .ok (.return_, 1) := by decide +kernel
theorem dX0_add_0 : decode cX0_add 0 = .ok (.aload_n 0, 1) := by decide +kernel
theorem dX0_add_1 : decode cX0_add 1 = .ok (.getfield 27, 3) := by decide +kernel
theorem dX0_add_4 : decode cX0_add 4 = .ok (.ifCond .lt 12, 3) := by decide +kernel
theorem dX0_add_7 : decode cX0_add 7 = .ok (.aload_n 0, 1) := by decide +kernel
theorem dX0_add_8 : decode cX0_add 8 = .ok (.getfield 27, 3) := by decide +kernel
theorem dX0_add_11 : decode cX0_add 11 = .ok (.bipush 10, 2) := by decide +kernel
theorem dX0_add_13 : decode cX0_add 13 = .ok (.if_icmp .lt 5, 3) := by decide +kernel
theorem dX0_add_16 : decode cX0_add 16 = .ok (.iconst (-1), 1) := by decide +kernel
theorem dX0_add_17 : decode cX0_add 17 = .ok (.ireturn, 1) := by decide +kernel
theorem dX0_add_18 : decode cX0_add 18 = .ok (.aload_n 0, 1) := by decide +kernel
theorem dX0_add_19 : decode cX0_add 19 = .ok (.getfield 9, 3) := by decide +kernel
theorem dX0_add_22 : decode cX0_add 22 = .ok (.aload_n 0, 1) := by decide +kernel
theorem dX0_add_23 : decode cX0_add 23 = .ok (.getfield 27, 3) := by decide +kernel
theorem dX0_add_26 : decode cX0_add 26 = .ok (.iload_n 1, 1) := by decide +kernel
theorem dX0_add_27 : decode cX0_add 27 = .ok (.iastore, 1) := by decide +kernel
theorem dX0_add_28 : decode cX0_add 28 = .ok (.aload_n 0, 1) := by decide +kernel
theorem dX0_add_29 : decode cX0_add 29 = .ok (.getfield 15, 3) := by decide +kernel
theorem dX0_add_32 : decode cX0_add 32 = .ok (.aload_n 0, 1) := by decide +kernel
theorem dX0_add_33 : decode cX0_add 33 = .ok (.getfield 27, 3) := by decide +kernel
theorem dX0_add_36 : decode cX0_add 36 = .ok (.iload_n 2, 1) := by decide +kernel
theorem dX0_add_37 : decode cX0_add 37 = .ok (.iastore, 1) := by decide +kernel
theorem dX0_add_38 : decode cX0_add 38 = .ok (.aload_n 0, 1) := by decide +kernel
theorem dX0_add_39 : decode cX0_add 39 = .ok (.getfield 18, 3) := by decide +kernel
theorem dX0_add_42 : decode cX0_add 42 = .ok (.aload_n 0, 1) := by decide +kernel
theorem dX0_add_43 : decode cX0_add 43 = .ok (.getfield 27, 3) := by decide +kernel
theorem dX0_add_46 : decode cX0_add 46 = .ok (.iload_n 3, 1) := by decide +kernel
theorem dX0_add_47 : decode cX0_add 47 = .ok (.iastore, 1) := by decide +kernel
theorem dX0_add_48 : decode cX0_add 48 = .ok (.aload_n 0, 1) := by decide +kernel
theorem dX0_add_49 : decode cX0_add 49 = .ok (.dup, 1) := by decide +kernel
theorem dX0_add_50 : decode cX0_add 50 = .ok (.getfield 27, 3) := by decide +kernel
theorem dX0_add_53 : decode cX0_add 53 = .ok (.iconst 1, 1) := by decide +kernel
theorem dX0_add_54 : decode cX0_add 54 = .ok (.iadd, 1) := by decide +kernel
theorem dX0_add_55 : decode cX0_add 55 = .ok (.putfield 27, 3) := by decide +kernel
theorem dX0_add_58 : decode cX0_add 58 = .ok (.aload_n 0, 1) := by decide +kernel
theorem dX0_add_59 : decode cX0_add 59 = .ok (.getfield 27, 3) := by decide +kernel
theorem dX0_add_62 : decode cX0_add 62 = .ok (.iconst 1, 1) := by decide +kernel
theorem dX0_add_63 : decode cX0_add 63 = .ok (.isub, 1) := by decide +kernel
theorem dX0_add_64 : decode cX0_add 64 = .ok (.ireturn, 1) := by decide +kernel
theorem dX0_lengthAt_0 : decode cX0_lengthAt 0 = .ok (.iload_n 1, 1) := by decide +kernel
theorem dX0_lengthAt_1 : decode cX0_lengthAt 1 = .ok (.ifCond .lt 21, 3) := by decide +kernel
theorem dX0_lengthAt_4 : decode cX0_lengthAt 4 = .ok (.iload_n 1, 1) := by decide +kernel
theorem dX0_lengthAt_5 : decode cX0_lengthAt 5 = .ok (.aload_n 0, 1) := by decide +kernel
theorem dX0_lengthAt_6 : decode cX0_lengthAt 6 = .ok (.getfield 9, 3) := by decide +kernel
theorem dX0_lengthAt_9 : decode cX0_lengthAt 9 = .ok (.arraylength, 1) := by decide +kernel
theorem dX0_lengthAt_10 : decode cX0_lengthAt 10 = .ok (.if_icmp .ge 12, 3) := by decide +kernel
theorem dX0_lengthAt_13 : decode cX0_lengthAt 13 = .ok (.aload_n 0, 1) := by decide +kernel
theorem dX0_lengthAt_14 : decode cX0_lengthAt 14 = .ok (.getfield 9, 3) := by decide +kernel
theorem dX0_lengthAt_17 : decode cX0_lengthAt 17 = .ok (.iload_n 1, 1) := by decide +kernel
theorem dX0_lengthAt_18 : decode cX0_lengthAt 18 = .ok (.iaload, 1) := by decide +kernel
theorem dX0_lengthAt_19 : decode cX0_lengthAt 19 = .ok (.goto 4, 3) := by decide +kernel
theorem dX0_lengthAt_22 : decode cX0_lengthAt 22 = .ok (.iconst 0, 1) := by decide +kernel
theorem dX0_lengthAt_23 : decode cX0_lengthAt 23 = .ok (.ireturn, 1) := by decide +kernel
theorem dX0_draughtAt_0 : decode cX0_draughtAt 0 = .ok (.iload_n 1, 1) := by decide +kernel
theorem dX0_draughtAt_1 : decode cX0_draughtAt 1 = .ok (.ifCond .lt 21, 3) := by decide +kernel
theorem dX0_draughtAt_4 : decode cX0_draughtAt 4 = .ok (.iload_n 1, 1) := by decide +kernel
theorem dX0_draughtAt_5 : decode cX0_draughtAt 5 = .ok (.aload_n 0, 1) := by decide +kernel
theorem dX0_draughtAt_6 : decode cX0_draughtAt 6 = .ok (.getfield 15, 3) := by decide +kernel
theorem dX0_draughtAt_9 : decode cX0_draughtAt 9 = .ok (.arraylength, 1) := by decide +kernel
theorem dX0_draughtAt_10 : decode cX0_draughtAt 10 = .ok (.if_icmp .ge 12, 3) := by decide +kernel
theorem dX0_draughtAt_13 : decode cX0_draughtAt 13 = .ok (.aload_n 0, 1) := by decide +kernel
theorem dX0_draughtAt_14 : decode cX0_draughtAt 14 = .ok (.getfield 15, 3) := by decide +kernel
theorem dX0_draughtAt_17 : decode cX0_draughtAt 17 = .ok (.iload_n 1, 1) := by decide +kernel
theorem dX0_draughtAt_18 : decode cX0_draughtAt 18 = .ok (.iaload, 1) := by decide +kernel
theorem dX0_draughtAt_19 : decode cX0_draughtAt 19 = .ok (.goto 4, 3) := by decide +kernel
theorem dX0_draughtAt_22 : decode cX0_draughtAt 22 = .ok (.iconst 0, 1) := by decide +kernel
theorem dX0_draughtAt_23 : decode cX0_draughtAt 23 = .ok (.ireturn, 1) := by decide +kernel
theorem dX0_placeAt_0 : decode cX0_placeAt 0 = .ok (.iload_n 1, 1) := by decide +kernel
theorem dX0_placeAt_1 : decode cX0_placeAt 1 = .ok (.ifCond .lt 21, 3) := by decide +kernel
theorem dX0_placeAt_4 : decode cX0_placeAt 4 = .ok (.iload_n 1, 1) := by decide +kernel
theorem dX0_placeAt_5 : decode cX0_placeAt 5 = .ok (.aload_n 0, 1) := by decide +kernel
theorem dX0_placeAt_6 : decode cX0_placeAt 6 = .ok (.getfield 18, 3) := by decide +kernel
theorem dX0_placeAt_9 : decode cX0_placeAt 9 = .ok (.arraylength, 1) := by decide +kernel
theorem dX0_placeAt_10 : decode cX0_placeAt 10 = .ok (.if_icmp .ge 12, 3) := by decide +kernel
theorem dX0_placeAt_13 : decode cX0_placeAt 13 = .ok (.aload_n 0, 1) := by decide +kernel
theorem dX0_placeAt_14 : decode cX0_placeAt 14 = .ok (.getfield 18, 3) := by decide +kernel
theorem dX0_placeAt_17 : decode cX0_placeAt 17 = .ok (.iload_n 1, 1) := by decide +kernel
theorem dX0_placeAt_18 : decode cX0_placeAt 18 = .ok (.iaload, 1) := by decide +kernel
theorem dX0_placeAt_19 : decode cX0_placeAt 19 = .ok (.goto 4, 3) := by decide +kernel
theorem dX0_placeAt_22 : decode cX0_placeAt 22 = .ok (.iconst 0, 1) := by decide +kernel
theorem dX0_placeAt_23 : decode cX0_placeAt 23 = .ok (.ireturn, 1) := by decide +kernel
theorem dX0_put_0 : decode cX0_put 0 = .ok (.iload_n 1, 1) := by decide +kernel
theorem dX0_put_1 : decode cX0_put 1 = .ok (.ifCond .lt 19, 3) := by decide +kernel
theorem dX0_put_4 : decode cX0_put 4 = .ok (.iload_n 1, 1) := by decide +kernel
theorem dX0_put_5 : decode cX0_put 5 = .ok (.aload_n 0, 1) := by decide +kernel
theorem dX0_put_6 : decode cX0_put 6 = .ok (.getfield 18, 3) := by decide +kernel
theorem dX0_put_9 : decode cX0_put 9 = .ok (.arraylength, 1) := by decide +kernel
theorem dX0_put_10 : decode cX0_put 10 = .ok (.if_icmp .ge 10, 3) := by decide +kernel
theorem dX0_put_13 : decode cX0_put 13 = .ok (.aload_n 0, 1) := by decide +kernel
theorem dX0_put_14 : decode cX0_put 14 = .ok (.getfield 18, 3) := by decide +kernel
theorem dX0_put_17 : decode cX0_put 17 = .ok (.iload_n 1, 1) := by decide +kernel
theorem dX0_put_18 : decode cX0_put 18 = .ok (.iload_n 2, 1) := by decide +kernel
theorem dX0_put_19 : decode cX0_put 19 = .ok (.iastore, 1) := by decide +kernel
theorem dX0_put_20 : decode cX0_put 20 = .ok (.return_, 1) := by decide +kernel
set_option maxRecDepth 20000 in
theorem ggX0_boatsIn_X0_placeAt : GoodIn wsX0_boatsIn wsX0_placeAt := goodIn_r _ [6, 7, 8, 9, 10, 11] (by decide +kernel) (by decide +kernel)
set_option maxRecDepth 20000 in
theorem gX0_boatsIn_X0_placeAt : GoodIn wsX0_boatsIn (wsV RX0 31 RX0 yX0_placeAt wsX0_placeAt) := goodIn_app (goodIn_of _ (by decide +kernel)) ggX0_boatsIn_X0_placeAt
theorem dX0_boatsIn_0 : decode cX0_boatsIn 0 = .ok (.iconst 0, 1) := by decide +kernel
theorem dX0_boatsIn_1 : decode cX0_boatsIn 1 = .ok (.istore_n 2, 1) := by decide +kernel
theorem dX0_boatsIn_2 : decode cX0_boatsIn 2 = .ok (.iconst 0, 1) := by decide +kernel
theorem dX0_boatsIn_3 : decode cX0_boatsIn 3 = .ok (.istore_n 3, 1) := by decide +kernel
theorem dX0_boatsIn_4 : decode cX0_boatsIn 4 = .ok (.iload_n 3, 1) := by decide +kernel
theorem dX0_boatsIn_5 : decode cX0_boatsIn 5 = .ok (.aload_n 0, 1) := by decide +kernel
theorem dX0_boatsIn_6 : decode cX0_boatsIn 6 = .ok (.getfield 27, 3) := by decide +kernel
theorem dX0_boatsIn_9 : decode cX0_boatsIn 9 = .ok (.if_icmp .ge 21, 3) := by decide +kernel
theorem dX0_boatsIn_12 : decode cX0_boatsIn 12 = .ok (.aload_n 0, 1) := by decide +kernel
theorem dX0_boatsIn_13 : decode cX0_boatsIn 13 = .ok (.iload_n 3, 1) := by decide +kernel
theorem dX0_boatsIn_14 : decode cX0_boatsIn 14 = .ok (.invokevirtual 31, 3) := by decide +kernel
theorem dX0_boatsIn_17 : decode cX0_boatsIn 17 = .ok (.iload_n 1, 1) := by decide +kernel
theorem dX0_boatsIn_18 : decode cX0_boatsIn 18 = .ok (.if_icmp .ne 6, 3) := by decide +kernel
theorem dX0_boatsIn_21 : decode cX0_boatsIn 21 = .ok (.iinc 2 1, 3) := by decide +kernel
theorem dX0_boatsIn_24 : decode cX0_boatsIn 24 = .ok (.iinc 3 1, 3) := by decide +kernel
theorem dX0_boatsIn_27 : decode cX0_boatsIn 27 = .ok (.goto (-23), 3) := by decide +kernel
theorem dX0_boatsIn_30 : decode cX0_boatsIn 30 = .ok (.iload_n 2, 1) := by decide +kernel
theorem dX0_boatsIn_31 : decode cX0_boatsIn 31 = .ok (.ireturn, 1) := by decide +kernel
set_option maxRecDepth 20000 in
theorem ggX0_lengthIn_X0_placeAt : GoodIn wsX0_lengthIn wsX0_placeAt := goodIn_r _ [6, 7, 13, 14, 15, 16] (by decide +kernel) (by decide +kernel)
set_option maxRecDepth 20000 in
theorem gX0_lengthIn_X0_placeAt : GoodIn wsX0_lengthIn (wsV RX0 31 RX0 yX0_placeAt wsX0_placeAt) := goodIn_app (goodIn_of _ (by decide +kernel)) ggX0_lengthIn_X0_placeAt
set_option maxRecDepth 20000 in
theorem ggX0_lengthIn_X0_lengthAt : GoodIn wsX0_lengthIn wsX0_lengthAt := goodIn_r _ [11, 12, 13, 14, 15, 16] (by decide +kernel) (by decide +kernel)
set_option maxRecDepth 20000 in
theorem gX0_lengthIn_X0_lengthAt : GoodIn wsX0_lengthIn (wsV RX0 35 RX0 yX0_lengthAt wsX0_lengthAt) := goodIn_app (goodIn_of _ (by decide +kernel)) ggX0_lengthIn_X0_lengthAt
theorem dX0_lengthIn_0 : decode cX0_lengthIn 0 = .ok (.iconst 0, 1) := by decide +kernel
theorem dX0_lengthIn_1 : decode cX0_lengthIn 1 = .ok (.istore_n 2, 1) := by decide +kernel
theorem dX0_lengthIn_2 : decode cX0_lengthIn 2 = .ok (.iconst 0, 1) := by decide +kernel
theorem dX0_lengthIn_3 : decode cX0_lengthIn 3 = .ok (.istore_n 3, 1) := by decide +kernel
theorem dX0_lengthIn_4 : decode cX0_lengthIn 4 = .ok (.iload_n 3, 1) := by decide +kernel
theorem dX0_lengthIn_5 : decode cX0_lengthIn 5 = .ok (.aload_n 0, 1) := by decide +kernel
theorem dX0_lengthIn_6 : decode cX0_lengthIn 6 = .ok (.getfield 27, 3) := by decide +kernel
theorem dX0_lengthIn_9 : decode cX0_lengthIn 9 = .ok (.if_icmp .ge 26, 3) := by decide +kernel
theorem dX0_lengthIn_12 : decode cX0_lengthIn 12 = .ok (.aload_n 0, 1) := by decide +kernel
theorem dX0_lengthIn_13 : decode cX0_lengthIn 13 = .ok (.iload_n 3, 1) := by decide +kernel
theorem dX0_lengthIn_14 : decode cX0_lengthIn 14 = .ok (.invokevirtual 31, 3) := by decide +kernel
theorem dX0_lengthIn_17 : decode cX0_lengthIn 17 = .ok (.iload_n 1, 1) := by decide +kernel
theorem dX0_lengthIn_18 : decode cX0_lengthIn 18 = .ok (.if_icmp .ne 11, 3) := by decide +kernel
theorem dX0_lengthIn_21 : decode cX0_lengthIn 21 = .ok (.iload_n 2, 1) := by decide +kernel
theorem dX0_lengthIn_22 : decode cX0_lengthIn 22 = .ok (.aload_n 0, 1) := by decide +kernel
theorem dX0_lengthIn_23 : decode cX0_lengthIn 23 = .ok (.iload_n 3, 1) := by decide +kernel
theorem dX0_lengthIn_24 : decode cX0_lengthIn 24 = .ok (.invokevirtual 35, 3) := by decide +kernel
theorem dX0_lengthIn_27 : decode cX0_lengthIn 27 = .ok (.iadd, 1) := by decide +kernel
theorem dX0_lengthIn_28 : decode cX0_lengthIn 28 = .ok (.istore_n 2, 1) := by decide +kernel
theorem dX0_lengthIn_29 : decode cX0_lengthIn 29 = .ok (.iinc 3 1, 3) := by decide +kernel
theorem dX0_lengthIn_32 : decode cX0_lengthIn 32 = .ok (.goto (-28), 3) := by decide +kernel
theorem dX0_lengthIn_35 : decode cX0_lengthIn 35 = .ok (.iload_n 2, 1) := by decide +kernel
theorem dX0_lengthIn_36 : decode cX0_lengthIn 36 = .ok (.ireturn, 1) := by decide +kernel
theorem dX1_init_0 : decode cX1_init 0 = .ok (.aload_n 0, 1) := by decide +kernel
theorem dX1_init_1 : decode cX1_init 1 = .ok (.invokespecial 3, 3) := by decide +kernel
theorem dX1_init_4 : decode cX1_init 4 = .ok (.aload_n 0, 1) := by decide +kernel
theorem dX1_init_5 : decode cX1_init 5 = .ok (.bipush 7, 2) := by decide +kernel
theorem dX1_init_7 : decode cX1_init 7 = .ok (.newarray .boolean, 2) := by decide +kernel
theorem dX1_init_9 : decode cX1_init 9 = .ok (.putfield 9, 3) := by decide +kernel
theorem dX1_init_12 : decode cX1_init 12 = .ok (.aload_n 0, 1) := by decide +kernel
theorem dX1_init_13 : decode cX1_init 13 = .ok (.bipush 7, 2) := by decide +kernel
theorem dX1_init_15 : decode cX1_init 15 = .ok (.newarray .int, 2) := by decide +kernel
theorem dX1_init_17 : decode cX1_init 17 = .ok (.putfield 15, 3) := by decide +kernel
theorem dX1_init_20 : decode cX1_init 20 = .ok (.return_, 1) := by decide +kernel
theorem dX1_isOpenAt_0 : decode cX1_isOpenAt 0 = .ok (.iload_n 1, 1) := by decide +kernel
theorem dX1_isOpenAt_1 : decode cX1_isOpenAt 1 = .ok (.ifCond .lt 25, 3) := by decide +kernel
theorem dX1_isOpenAt_4 : decode cX1_isOpenAt 4 = .ok (.iload_n 1, 1) := by decide +kernel
theorem dX1_isOpenAt_5 : decode cX1_isOpenAt 5 = .ok (.aload_n 0, 1) := by decide +kernel
theorem dX1_isOpenAt_6 : decode cX1_isOpenAt 6 = .ok (.getfield 9, 3) := by decide +kernel
theorem dX1_isOpenAt_9 : decode cX1_isOpenAt 9 = .ok (.arraylength, 1) := by decide +kernel
theorem dX1_isOpenAt_10 : decode cX1_isOpenAt 10 = .ok (.if_icmp .ge 16, 3) := by decide +kernel
theorem dX1_isOpenAt_13 : decode cX1_isOpenAt 13 = .ok (.aload_n 0, 1) := by decide +kernel
theorem dX1_isOpenAt_14 : decode cX1_isOpenAt 14 = .ok (.getfield 9, 3) := by decide +kernel
theorem dX1_isOpenAt_17 : decode cX1_isOpenAt 17 = .ok (.iload_n 1, 1) := by decide +kernel
theorem dX1_isOpenAt_18 : decode cX1_isOpenAt 18 = .ok (.baload, 1) := by decide +kernel
theorem dX1_isOpenAt_19 : decode cX1_isOpenAt 19 = .ok (.ifCond .eq 7, 3) := by decide +kernel
theorem dX1_isOpenAt_22 : decode cX1_isOpenAt 22 = .ok (.iconst 1, 1) := by decide +kernel
theorem dX1_isOpenAt_23 : decode cX1_isOpenAt 23 = .ok (.goto 4, 3) := by decide +kernel
theorem dX1_isOpenAt_26 : decode cX1_isOpenAt 26 = .ok (.iconst 0, 1) := by decide +kernel
theorem dX1_isOpenAt_27 : decode cX1_isOpenAt 27 = .ok (.ireturn, 1) := by decide +kernel
theorem dX1_turnsAt_0 : decode cX1_turnsAt 0 = .ok (.iload_n 1, 1) := by decide +kernel
theorem dX1_turnsAt_1 : decode cX1_turnsAt 1 = .ok (.ifCond .lt 21, 3) := by decide +kernel
theorem dX1_turnsAt_4 : decode cX1_turnsAt 4 = .ok (.iload_n 1, 1) := by decide +kernel
theorem dX1_turnsAt_5 : decode cX1_turnsAt 5 = .ok (.aload_n 0, 1) := by decide +kernel
theorem dX1_turnsAt_6 : decode cX1_turnsAt 6 = .ok (.getfield 15, 3) := by decide +kernel
theorem dX1_turnsAt_9 : decode cX1_turnsAt 9 = .ok (.arraylength, 1) := by decide +kernel
theorem dX1_turnsAt_10 : decode cX1_turnsAt 10 = .ok (.if_icmp .ge 12, 3) := by decide +kernel
theorem dX1_turnsAt_13 : decode cX1_turnsAt 13 = .ok (.aload_n 0, 1) := by decide +kernel
theorem dX1_turnsAt_14 : decode cX1_turnsAt 14 = .ok (.getfield 15, 3) := by decide +kernel
theorem dX1_turnsAt_17 : decode cX1_turnsAt 17 = .ok (.iload_n 1, 1) := by decide +kernel
theorem dX1_turnsAt_18 : decode cX1_turnsAt 18 = .ok (.iaload, 1) := by decide +kernel
theorem dX1_turnsAt_19 : decode cX1_turnsAt 19 = .ok (.goto 4, 3) := by decide +kernel
theorem dX1_turnsAt_22 : decode cX1_turnsAt 22 = .ok (.iconst 0, 1) := by decide +kernel
theorem dX1_turnsAt_23 : decode cX1_turnsAt 23 = .ok (.ireturn, 1) := by decide +kernel
set_option maxRecDepth 20000 in
theorem ggX1_isOpenBeside_X1_isOpenAt : GoodIn wsX1_isOpenBeside wsX1_isOpenAt := goodIn_r _ [5, 6, 7, 8] (by decide +kernel) (by decide +kernel)
set_option maxRecDepth 20000 in
theorem gX1_isOpenBeside_X1_isOpenAt : GoodIn wsX1_isOpenBeside (wsV RX1 19 RX1 yX1_isOpenAt wsX1_isOpenAt) := goodIn_app (goodIn_of _ (by decide +kernel)) ggX1_isOpenBeside_X1_isOpenAt
theorem dX1_isOpenBeside_0 : decode cX1_isOpenBeside 0 = .ok (.aload_n 0, 1) := by decide +kernel
theorem dX1_isOpenBeside_1 : decode cX1_isOpenBeside 1 = .ok (.iload_n 1, 1) := by decide +kernel
theorem dX1_isOpenBeside_2 : decode cX1_isOpenBeside 2 = .ok (.iconst 1, 1) := by decide +kernel
theorem dX1_isOpenBeside_3 : decode cX1_isOpenBeside 3 = .ok (.isub, 1) := by decide +kernel
theorem dX1_isOpenBeside_4 : decode cX1_isOpenBeside 4 = .ok (.invokevirtual 19, 3) := by decide +kernel
theorem dX1_isOpenBeside_7 : decode cX1_isOpenBeside 7 = .ok (.ifCond .ne 21, 3) := by decide +kernel
theorem dX1_isOpenBeside_10 : decode cX1_isOpenBeside 10 = .ok (.aload_n 0, 1) := by decide +kernel
theorem dX1_isOpenBeside_11 : decode cX1_isOpenBeside 11 = .ok (.iload_n 1, 1) := by decide +kernel
theorem dX1_isOpenBeside_12 : decode cX1_isOpenBeside 12 = .ok (.invokevirtual 19, 3) := by decide +kernel
theorem dX1_isOpenBeside_15 : decode cX1_isOpenBeside 15 = .ok (.ifCond .ne 13, 3) := by decide +kernel
theorem dX1_isOpenBeside_18 : decode cX1_isOpenBeside 18 = .ok (.aload_n 0, 1) := by decide +kernel
theorem dX1_isOpenBeside_19 : decode cX1_isOpenBeside 19 = .ok (.iload_n 1, 1) := by decide +kernel
theorem dX1_isOpenBeside_20 : decode cX1_isOpenBeside 20 = .ok (.iconst 1, 1) := by decide +kernel
theorem dX1_isOpenBeside_21 : decode cX1_isOpenBeside 21 = .ok (.iadd, 1) := by decide +kernel
theorem dX1_isOpenBeside_22 : decode cX1_isOpenBeside 22 = .ok (.invokevirtual 19, 3) := by decide +kernel
theorem dX1_isOpenBeside_25 : decode cX1_isOpenBeside 25 = .ok (.ifCond .eq 7, 3) := by decide +kernel
theorem dX1_isOpenBeside_28 : decode cX1_isOpenBeside 28 = .ok (.iconst 1, 1) := by decide +kernel
theorem dX1_isOpenBeside_29 : decode cX1_isOpenBeside 29 = .ok (.goto 4, 3) := by decide +kernel
theorem dX1_isOpenBeside_32 : decode cX1_isOpenBeside 32 = .ok (.iconst 0, 1) := by decide +kernel
theorem dX1_isOpenBeside_33 : decode cX1_isOpenBeside 33 = .ok (.ireturn, 1) := by decide +kernel
set_option maxRecDepth 20000 in
theorem ggX1_isSluiceUpBeside_X1_turnsAt : GoodIn wsX1_isSluiceUpBeside wsX1_turnsAt := goodIn_r _ [5, 6, 7, 8] (by decide +kernel) (by decide +kernel)
set_option maxRecDepth 20000 in
theorem gX1_isSluiceUpBeside_X1_turnsAt : GoodIn wsX1_isSluiceUpBeside (wsV RX1 23 RX1 yX1_turnsAt wsX1_turnsAt) := goodIn_app (goodIn_of _ (by decide +kernel)) ggX1_isSluiceUpBeside_X1_turnsAt
theorem dX1_isSluiceUpBeside_0 : decode cX1_isSluiceUpBeside 0 = .ok (.aload_n 0, 1) := by decide +kernel
theorem dX1_isSluiceUpBeside_1 : decode cX1_isSluiceUpBeside 1 = .ok (.iload_n 1, 1) := by decide +kernel
theorem dX1_isSluiceUpBeside_2 : decode cX1_isSluiceUpBeside 2 = .ok (.iconst 1, 1) := by decide +kernel
theorem dX1_isSluiceUpBeside_3 : decode cX1_isSluiceUpBeside 3 = .ok (.isub, 1) := by decide +kernel
theorem dX1_isSluiceUpBeside_4 : decode cX1_isSluiceUpBeside 4 = .ok (.invokevirtual 23, 3) := by decide +kernel
theorem dX1_isSluiceUpBeside_7 : decode cX1_isSluiceUpBeside 7 = .ok (.ifCond .gt 21, 3) := by decide +kernel
theorem dX1_isSluiceUpBeside_10 : decode cX1_isSluiceUpBeside 10 = .ok (.aload_n 0, 1) := by decide +kernel
theorem dX1_isSluiceUpBeside_11 : decode cX1_isSluiceUpBeside 11 = .ok (.iload_n 1, 1) := by decide +kernel
theorem dX1_isSluiceUpBeside_12 : decode cX1_isSluiceUpBeside 12 = .ok (.invokevirtual 23, 3) := by decide +kernel
theorem dX1_isSluiceUpBeside_15 : decode cX1_isSluiceUpBeside 15 = .ok (.ifCond .gt 13, 3) := by decide +kernel
theorem dX1_isSluiceUpBeside_18 : decode cX1_isSluiceUpBeside 18 = .ok (.aload_n 0, 1) := by decide +kernel
theorem dX1_isSluiceUpBeside_19 : decode cX1_isSluiceUpBeside 19 = .ok (.iload_n 1, 1) := by decide +kernel
theorem dX1_isSluiceUpBeside_20 : decode cX1_isSluiceUpBeside 20 = .ok (.iconst 1, 1) := by decide +kernel
theorem dX1_isSluiceUpBeside_21 : decode cX1_isSluiceUpBeside 21 = .ok (.iadd, 1) := by decide +kernel
theorem dX1_isSluiceUpBeside_22 : decode cX1_isSluiceUpBeside 22 = .ok (.invokevirtual 23, 3) := by decide +kernel
theorem dX1_isSluiceUpBeside_25 : decode cX1_isSluiceUpBeside 25 = .ok (.ifCond .le 7, 3) := by decide +kernel
theorem dX1_isSluiceUpBeside_28 : decode cX1_isSluiceUpBeside 28 = .ok (.iconst 1, 1) := by decide +kernel
theorem dX1_isSluiceUpBeside_29 : decode cX1_isSluiceUpBeside 29 = .ok (.goto 4, 3) := by decide +kernel
theorem dX1_isSluiceUpBeside_32 : decode cX1_isSluiceUpBeside 32 = .ok (.iconst 0, 1) := by decide +kernel
theorem dX1_isSluiceUpBeside_33 : decode cX1_isSluiceUpBeside 33 = .ok (.ireturn, 1) := by decide +kernel
theorem dX1_setOpen_0 : decode cX1_setOpen 0 = .ok (.iload_n 1, 1) := by decide +kernel
theorem dX1_setOpen_1 : decode cX1_setOpen 1 = .ok (.ifCond .lt 19, 3) := by decide +kernel
theorem dX1_setOpen_4 : decode cX1_setOpen 4 = .ok (.iload_n 1, 1) := by decide +kernel
theorem dX1_setOpen_5 : decode cX1_setOpen 5 = .ok (.aload_n 0, 1) := by decide +kernel
theorem dX1_setOpen_6 : decode cX1_setOpen 6 = .ok (.getfield 9, 3) := by decide +kernel
theorem dX1_setOpen_9 : decode cX1_setOpen 9 = .ok (.arraylength, 1) := by decide +kernel
theorem dX1_setOpen_10 : decode cX1_setOpen 10 = .ok (.if_icmp .ge 10, 3) := by decide +kernel
theorem dX1_setOpen_13 : decode cX1_setOpen 13 = .ok (.aload_n 0, 1) := by decide +kernel
theorem dX1_setOpen_14 : decode cX1_setOpen 14 = .ok (.getfield 9, 3) := by decide +kernel
theorem dX1_setOpen_17 : decode cX1_setOpen 17 = .ok (.iload_n 1, 1) := by decide +kernel
theorem dX1_setOpen_18 : decode cX1_setOpen 18 = .ok (.iload_n 2, 1) := by decide +kernel
theorem dX1_setOpen_19 : decode cX1_setOpen 19 = .ok (.bastore, 1) := by decide +kernel
theorem dX1_setOpen_20 : decode cX1_setOpen 20 = .ok (.return_, 1) := by decide +kernel
theorem dX1_setTurns_0 : decode cX1_setTurns 0 = .ok (.iload_n 1, 1) := by decide +kernel
theorem dX1_setTurns_1 : decode cX1_setTurns 1 = .ok (.ifCond .lt 19, 3) := by decide +kernel
theorem dX1_setTurns_4 : decode cX1_setTurns 4 = .ok (.iload_n 1, 1) := by decide +kernel
theorem dX1_setTurns_5 : decode cX1_setTurns 5 = .ok (.aload_n 0, 1) := by decide +kernel
theorem dX1_setTurns_6 : decode cX1_setTurns 6 = .ok (.getfield 15, 3) := by decide +kernel
theorem dX1_setTurns_9 : decode cX1_setTurns 9 = .ok (.arraylength, 1) := by decide +kernel
theorem dX1_setTurns_10 : decode cX1_setTurns 10 = .ok (.if_icmp .ge 10, 3) := by decide +kernel
theorem dX1_setTurns_13 : decode cX1_setTurns 13 = .ok (.aload_n 0, 1) := by decide +kernel
theorem dX1_setTurns_14 : decode cX1_setTurns 14 = .ok (.getfield 15, 3) := by decide +kernel
theorem dX1_setTurns_17 : decode cX1_setTurns 17 = .ok (.iload_n 1, 1) := by decide +kernel
theorem dX1_setTurns_18 : decode cX1_setTurns 18 = .ok (.iload_n 2, 1) := by decide +kernel
theorem dX1_setTurns_19 : decode cX1_setTurns 19 = .ok (.iastore, 1) := by decide +kernel
theorem dX1_setTurns_20 : decode cX1_setTurns 20 = .ok (.return_, 1) := by decide +kernel
theorem dX1_countOpen_0 : decode cX1_countOpen 0 = .ok (.iconst 0, 1) := by decide +kernel
theorem dX1_countOpen_1 : decode cX1_countOpen 1 = .ok (.istore_n 1, 1) := by decide +kernel
theorem dX1_countOpen_2 : decode cX1_countOpen 2 = .ok (.iconst 0, 1) := by decide +kernel
theorem dX1_countOpen_3 : decode cX1_countOpen 3 = .ok (.istore_n 2, 1) := by decide +kernel
theorem dX1_countOpen_4 : decode cX1_countOpen 4 = .ok (.iload_n 2, 1) := by decide +kernel
theorem dX1_countOpen_5 : decode cX1_countOpen 5 = .ok (.aload_n 0, 1) := by decide +kernel
theorem dX1_countOpen_6 : decode cX1_countOpen 6 = .ok (.getfield 9, 3) := by decide +kernel
theorem dX1_countOpen_9 : decode cX1_countOpen 9 = .ok (.arraylength, 1) := by decide +kernel
theorem dX1_countOpen_10 : decode cX1_countOpen 10 = .ok (.if_icmp .ge 21, 3) := by decide +kernel
theorem dX1_countOpen_13 : decode cX1_countOpen 13 = .ok (.aload_n 0, 1) := by decide +kernel
theorem dX1_countOpen_14 : decode cX1_countOpen 14 = .ok (.getfield 9, 3) := by decide +kernel
theorem dX1_countOpen_17 : decode cX1_countOpen 17 = .ok (.iload_n 2, 1) := by decide +kernel
theorem dX1_countOpen_18 : decode cX1_countOpen 18 = .ok (.baload, 1) := by decide +kernel
theorem dX1_countOpen_19 : decode cX1_countOpen 19 = .ok (.ifCond .eq 6, 3) := by decide +kernel
theorem dX1_countOpen_22 : decode cX1_countOpen 22 = .ok (.iinc 1 1, 3) := by decide +kernel
theorem dX1_countOpen_25 : decode cX1_countOpen 25 = .ok (.iinc 2 1, 3) := by decide +kernel
theorem dX1_countOpen_28 : decode cX1_countOpen 28 = .ok (.goto (-24), 3) := by decide +kernel
theorem dX1_countOpen_31 : decode cX1_countOpen 31 = .ok (.iload_n 1, 1) := by decide +kernel
theorem dX1_countOpen_32 : decode cX1_countOpen 32 = .ok (.ireturn, 1) := by decide +kernel
set_option maxRecDepth 20000 in
theorem ggX1_closeAll_X1_setOpen : GoodIn wsX1_closeAll wsX1_setOpen := goodIn_r _ [5, 6, 12, 13] (by decide +kernel) (by decide +kernel)
set_option maxRecDepth 20000 in
theorem gX1_closeAll_X1_setOpen : GoodIn wsX1_closeAll (wsV RX1 27 RX1 yX1_setOpen wsX1_setOpen) := goodIn_app (goodIn_of _ (by decide +kernel)) ggX1_closeAll_X1_setOpen
set_option maxRecDepth 20000 in
theorem ggX1_closeAll_X1_setTurns : GoodIn wsX1_closeAll wsX1_setTurns := goodIn_r _ [10, 11, 12, 13] (by decide +kernel) (by decide +kernel)
set_option maxRecDepth 20000 in
theorem gX1_closeAll_X1_setTurns : GoodIn wsX1_closeAll (wsV RX1 31 RX1 yX1_setTurns wsX1_setTurns) := goodIn_app (goodIn_of _ (by decide +kernel)) ggX1_closeAll_X1_setTurns
theorem dX1_closeAll_0 : decode cX1_closeAll 0 = .ok (.iconst 0, 1) := by decide +kernel
theorem dX1_closeAll_1 : decode cX1_closeAll 1 = .ok (.istore_n 1, 1) := by decide +kernel
theorem dX1_closeAll_2 : decode cX1_closeAll 2 = .ok (.iload_n 1, 1) := by decide +kernel
theorem dX1_closeAll_3 : decode cX1_closeAll 3 = .ok (.bipush 7, 2) := by decide +kernel
theorem dX1_closeAll_5 : decode cX1_closeAll 5 = .ok (.if_icmp .ge 21, 3) := by decide +kernel
theorem dX1_closeAll_8 : decode cX1_closeAll 8 = .ok (.aload_n 0, 1) := by decide +kernel
theorem dX1_closeAll_9 : decode cX1_closeAll 9 = .ok (.iload_n 1, 1) := by decide +kernel
theorem dX1_closeAll_10 : decode cX1_closeAll 10 = .ok (.iconst 0, 1) := by decide +kernel
theorem dX1_closeAll_11 : decode cX1_closeAll 11 = .ok (.invokevirtual 27, 3) := by decide +kernel
theorem dX1_closeAll_14 : decode cX1_closeAll 14 = .ok (.aload_n 0, 1) := by decide +kernel
theorem dX1_closeAll_15 : decode cX1_closeAll 15 = .ok (.iload_n 1, 1) := by decide +kernel
theorem dX1_closeAll_16 : decode cX1_closeAll 16 = .ok (.iconst 0, 1) := by decide +kernel
theorem dX1_closeAll_17 : decode cX1_closeAll 17 = .ok (.invokevirtual 31, 3) := by decide +kernel
theorem dX1_closeAll_20 : decode cX1_closeAll 20 = .ok (.iinc 1 1, 3) := by decide +kernel
theorem dX1_closeAll_23 : decode cX1_closeAll 23 = .ok (.goto (-21), 3) := by decide +kernel
theorem dX1_closeAll_26 : decode cX1_closeAll 26 = .ok (.return_, 1) := by decide +kernel
set_option maxRecDepth 20000 in
theorem ggX2_init_X1_init : GoodIn wsX2_init wsX1_init := goodIn_r _ [21, 22, 2, 3, 23, 24, 25, 26, 58, 59] (by decide +kernel) (by decide +kernel)
set_option maxRecDepth 20000 in
theorem gX2_init_X1_init_n11 : GoodIn wsX2_init (wsX1_init) := ggX2_init_X1_init
set_option maxRecDepth 20000 in
theorem ggX2_init_X0_init : GoodIn wsX2_init wsX0_init := goodIn_r _ [28, 29, 2, 3, 25, 30, 31, 32, 64, 65, 66, 67] (by decide +kernel) (by decide +kernel)
set_option maxRecDepth 20000 in
theorem gX2_init_X0_init_n20 : GoodIn wsX2_init (wsX0_init) := ggX2_init_X0_init
set_option maxRecDepth 20000 in
theorem ggX2_init_X3_init : GoodIn wsX2_init wsX3_init := goodIn_r _ [34, 35, 2, 3, 36, 37, 38, 68, 69, 70, 71] (by decide +kernel) (by decide +kernel)
set_option maxRecDepth 20000 in
theorem gX2_init_X3_init_n27 : GoodIn wsX2_init (wsX3_init) := ggX2_init_X3_init
set_option maxRecDepth 20000 in
theorem ggX2_init_X4_init : GoodIn wsX2_init wsX4_init := goodIn_r _ [41, 42, 2, 3, 43, 44, 25, 45, 46, 47, 48, 49, 50, 51, 52, 53, 54, 55, 56, 57, 72, 73, 74, 75, 76, 77, 78, 79] (by decide +kernel) (by decide +kernel)
set_option maxRecDepth 20000 in
theorem gX2_init_X4_init : GoodIn wsX2_init (wsX4_init) := ggX2_init_X4_init
theorem dX2_init_0 : decode cX2_init 0 = .ok (.aload_n 0, 1) := by decide +kernel
theorem dX2_init_1 : decode cX2_init 1 = .ok (.invokespecial 3, 3) := by decide +kernel
theorem dX2_init_4 : decode cX2_init 4 = .ok (.aload_n 0, 1) := by decide +kernel
theorem dX2_init_5 : decode cX2_init 5 = .ok (.new 9, 3) := by decide +kernel
theorem dX2_init_8 : decode cX2_init 8 = .ok (.dup, 1) := by decide +kernel
theorem dX2_init_9 : decode cX2_init 9 = .ok (.invokespecial 11, 3) := by decide +kernel
theorem dX2_init_12 : decode cX2_init 12 = .ok (.putfield 12, 3) := by decide +kernel
theorem dX2_init_15 : decode cX2_init 15 = .ok (.aload_n 0, 1) := by decide +kernel
theorem dX2_init_16 : decode cX2_init 16 = .ok (.new 18, 3) := by decide +kernel
theorem dX2_init_19 : decode cX2_init 19 = .ok (.dup, 1) := by decide +kernel
theorem dX2_init_20 : decode cX2_init 20 = .ok (.invokespecial 20, 3) := by decide +kernel
theorem dX2_init_23 : decode cX2_init 23 = .ok (.putfield 21, 3) := by decide +kernel
theorem dX2_init_26 : decode cX2_init 26 = .ok (.aload_n 0, 1) := by decide +kernel
theorem dX2_init_27 : decode cX2_init 27 = .ok (.new 25, 3) := by decide +kernel
theorem dX2_init_30 : decode cX2_init 30 = .ok (.dup, 1) := by decide +kernel
theorem dX2_init_31 : decode cX2_init 31 = .ok (.invokespecial 27, 3) := by decide +kernel
theorem dX2_init_34 : decode cX2_init 34 = .ok (.putfield 28, 3) := by decide +kernel
theorem dX2_init_37 : decode cX2_init 37 = .ok (.aload_n 0, 1) := by decide +kernel
theorem dX2_init_38 : decode cX2_init 38 = .ok (.new 32, 3) := by decide +kernel
theorem dX2_init_41 : decode cX2_init 41 = .ok (.dup, 1) := by decide +kernel
theorem dX2_init_42 : decode cX2_init 42 = .ok (.iload_n 1, 1) := by decide +kernel
theorem dX2_init_43 : decode cX2_init 43 = .ok (.iload_n 2, 1) := by decide +kernel
theorem dX2_init_44 : decode cX2_init 44 = .ok (.iload_n 3, 1) := by decide +kernel
theorem dX2_init_45 : decode cX2_init 45 = .ok (.invokespecial 34, 3) := by decide +kernel
theorem dX2_init_48 : decode cX2_init 48 = .ok (.putfield 37, 3) := by decide +kernel
theorem dX2_init_51 : decode cX2_init 51 = .ok (.return_, 1) := by decide +kernel
set_option maxRecDepth 20000 in
theorem ggX2_copyWaterAndBoats_X4_copyFrom : GoodIn wsX2_copyWaterAndBoats wsX4_copyFrom := goodIn_r _ [7, 8, 9, 10, 11, 12, 13, 14, 15, 16, 17, 18, 19, 20, 35, 36, 37, 38, 39, 40, 41, 42] (by decide +kernel) (by decide +kernel)
set_option maxRecDepth 20000 in
theorem gX2_copyWaterAndBoats_X4_copyFrom : GoodIn wsX2_copyWaterAndBoats (wsV RX2 41 RX4 yX4_copyFrom wsX4_copyFrom) := goodIn_app (goodIn_of _ (by decide +kernel)) ggX2_copyWaterAndBoats_X4_copyFrom
set_option maxRecDepth 20000 in
theorem ggX2_copyWaterAndBoats_X0_copyFrom : GoodIn wsX2_copyWaterAndBoats wsX0_copyFrom := goodIn_r _ [25, 26, 27, 14, 15, 16, 28, 29, 30, 43, 44, 45, 46] (by decide +kernel) (by decide +kernel)
set_option maxRecDepth 20000 in
theorem gX2_copyWaterAndBoats_X0_copyFrom : GoodIn wsX2_copyWaterAndBoats (wsV RX2 45 RX0 yX0_copyFrom wsX0_copyFrom) := goodIn_app (goodIn_of _ (by decide +kernel)) ggX2_copyWaterAndBoats_X0_copyFrom
theorem dX2_copyWaterAndBoats_0 : decode cX2_copyWaterAndBoats 0 = .ok (.aload_n 0, 1) := by decide +kernel
theorem dX2_copyWaterAndBoats_1 : decode cX2_copyWaterAndBoats 1 = .ok (.getfield 37, 3) := by decide +kernel
theorem dX2_copyWaterAndBoats_4 : decode cX2_copyWaterAndBoats 4 = .ok (.aload_n 1, 1) := by decide +kernel
theorem dX2_copyWaterAndBoats_5 : decode cX2_copyWaterAndBoats 5 = .ok (.getfield 37, 3) := by decide +kernel
theorem dX2_copyWaterAndBoats_8 : decode cX2_copyWaterAndBoats 8 = .ok (.invokevirtual 41, 3) := by decide +kernel
theorem dX2_copyWaterAndBoats_11 : decode cX2_copyWaterAndBoats 11 = .ok (.aload_n 0, 1) := by decide +kernel
theorem dX2_copyWaterAndBoats_12 : decode cX2_copyWaterAndBoats 12 = .ok (.getfield 21, 3) := by decide +kernel
theorem dX2_copyWaterAndBoats_15 : decode cX2_copyWaterAndBoats 15 = .ok (.aload_n 1, 1) := by decide +kernel
theorem dX2_copyWaterAndBoats_16 : decode cX2_copyWaterAndBoats 16 = .ok (.getfield 21, 3) := by decide +kernel
theorem dX2_copyWaterAndBoats_19 : decode cX2_copyWaterAndBoats 19 = .ok (.invokevirtual 45, 3) := by decide +kernel
theorem dX2_copyWaterAndBoats_22 : decode cX2_copyWaterAndBoats 22 = .ok (.return_, 1) := by decide +kernel
set_option maxRecDepth 20000 in
theorem ggX2_poundPlace_X4_count : GoodIn wsX2_poundPlace wsX4_count := goodIn_r _ [6, 7, 12, 13, 14, 15, 16, 17, 18, 19] (by decide +kernel) (by decide +kernel)
set_option maxRecDepth 20000 in
theorem gX2_poundPlace_X4_count : GoodIn wsX2_poundPlace (wsV RX2 48 RX4 yX4_count wsX4_count) := goodIn_app (goodIn_of _ (by decide +kernel)) ggX2_poundPlace_X4_count
theorem dX2_poundPlace_0 : decode cX2_poundPlace 0 = .ok (.aload_n 0, 1) := by decide +kernel
theorem dX2_poundPlace_1 : decode cX2_poundPlace 1 = .ok (.getfield 37, 3) := by decide +kernel
theorem dX2_poundPlace_4 : decode cX2_poundPlace 4 = .ok (.invokevirtual 48, 3) := by decide +kernel
theorem dX2_poundPlace_7 : decode cX2_poundPlace 7 = .ok (.iconst 1, 1) := by decide +kernel
theorem dX2_poundPlace_8 : decode cX2_poundPlace 8 = .ok (.iadd, 1) := by decide +kernel
theorem dX2_poundPlace_9 : decode cX2_poundPlace 9 = .ok (.ireturn, 1) := by decide +kernel
set_option maxRecDepth 20000 in
theorem ggX2_nextPlace_X0_placeAt : GoodIn wsX2_nextPlace wsX0_placeAt := goodIn_r _ [6, 7, 12, 13, 14, 15] (by decide +kernel) (by decide +kernel)
set_option maxRecDepth 20000 in
theorem gX2_nextPlace_X0_placeAt : GoodIn wsX2_nextPlace (wsV RX2 52 RX0 yX0_placeAt wsX0_placeAt) := goodIn_app (goodIn_of _ (by decide +kernel)) ggX2_nextPlace_X0_placeAt
theorem dX2_nextPlace_0 : decode cX2_nextPlace 0 = .ok (.aload_n 0, 1) := by decide +kernel
theorem dX2_nextPlace_1 : decode cX2_nextPlace 1 = .ok (.getfield 21, 3) := by decide +kernel
theorem dX2_nextPlace_4 : decode cX2_nextPlace 4 = .ok (.iload_n 1, 1) := by decide +kernel
theorem dX2_nextPlace_5 : decode cX2_nextPlace 5 = .ok (.invokevirtual 52, 3) := by decide +kernel
theorem dX2_nextPlace_8 : decode cX2_nextPlace 8 = .ok (.iload_n 2, 1) := by decide +kernel
theorem dX2_nextPlace_9 : decode cX2_nextPlace 9 = .ok (.ifCond .eq 7, 3) := by decide +kernel
theorem dX2_nextPlace_12 : decode cX2_nextPlace 12 = .ok (.iconst 1, 1) := by decide +kernel
theorem dX2_nextPlace_13 : decode cX2_nextPlace 13 = .ok (.goto 4, 3) := by decide +kernel
theorem dX2_nextPlace_16 : decode cX2_nextPlace 16 = .ok (.iconst (-1), 1) := by decide +kernel
theorem dX2_nextPlace_17 : decode cX2_nextPlace 17 = .ok (.iadd, 1) := by decide +kernel
theorem dX2_nextPlace_18 : decode cX2_nextPlace 18 = .ok (.ireturn, 1) := by decide +kernel
set_option maxRecDepth 20000 in
theorem ggX2_openingObstacle_X1_isOpenAt : GoodIn wsX2_openingObstacle wsX1_isOpenAt := goodIn_r _ [7, 8, 39, 40] (by decide +kernel) (by decide +kernel)
set_option maxRecDepth 20000 in
theorem gX2_openingObstacle_X1_isOpenAt : GoodIn wsX2_openingObstacle (wsV RX2 56 RX1 yX1_isOpenAt wsX1_isOpenAt) := goodIn_app (goodIn_of _ (by decide +kernel)) ggX2_openingObstacle_X1_isOpenAt
set_option maxRecDepth 20000 in
theorem ggX2_openingObstacle_X1_isSluiceUpBeside : GoodIn wsX2_openingObstacle wsX1_isSluiceUpBeside := goodIn_r _ [12, 13, 14, 15, 6, 16, 17, 39, 40] (by decide +kernel) (by decide +kernel)
set_option maxRecDepth 20000 in
theorem gX2_openingObstacle_X1_isSluiceUpBeside : GoodIn wsX2_openingObstacle (wsV RX2 60 RX1 yX1_isSluiceUpBeside wsX1_isSluiceUpBeside) := goodIn_app (goodIn_of _ (by decide +kernel)) ggX2_openingObstacle_X1_isSluiceUpBeside
set_option maxRecDepth 20000 in
theorem ggX2_openingObstacle_X4_headOver : GoodIn wsX2_openingObstacle wsX4_headOver := goodIn_r _ [22, 23, 24, 25, 21, 26, 27, 28, 29, 30, 31, 32, 33, 34, 41, 42, 43, 44, 45, 46, 47, 48] (by decide +kernel) (by decide +kernel)
set_option maxRecDepth 20000 in
theorem gX2_openingObstacle_X4_headOver : GoodIn wsX2_openingObstacle (wsV RX2 63 RX4 yX4_headOver wsX4_headOver) := goodIn_app (goodIn_of _ (by decide +kernel)) ggX2_openingObstacle_X4_headOver
theorem dX2_openingObstacle_0 : decode cX2_openingObstacle 0 = .ok (.aload_n 0, 1) := by decide +kernel
theorem dX2_openingObstacle_1 : decode cX2_openingObstacle 1 = .ok (.getfield 12, 3) := by decide +kernel
theorem dX2_openingObstacle_4 : decode cX2_openingObstacle 4 = .ok (.iload_n 1, 1) := by decide +kernel
theorem dX2_openingObstacle_5 : decode cX2_openingObstacle 5 = .ok (.invokevirtual 56, 3) := by decide +kernel
theorem dX2_openingObstacle_8 : decode cX2_openingObstacle 8 = .ok (.ifCond .eq 5, 3) := by decide +kernel
theorem dX2_openingObstacle_11 : decode cX2_openingObstacle 11 = .ok (.iconst 1, 1) := by decide +kernel
theorem dX2_openingObstacle_12 : decode cX2_openingObstacle 12 = .ok (.ireturn, 1) := by decide +kernel
theorem dX2_openingObstacle_13 : decode cX2_openingObstacle 13 = .ok (.aload_n 0, 1) := by decide +kernel
theorem dX2_openingObstacle_14 : decode cX2_openingObstacle 14 = .ok (.getfield 12, 3) := by decide +kernel
theorem dX2_openingObstacle_17 : decode cX2_openingObstacle 17 = .ok (.iload_n 1, 1) := by decide +kernel
theorem dX2_openingObstacle_18 : decode cX2_openingObstacle 18 = .ok (.invokevirtual 60, 3) := by decide +kernel
theorem dX2_openingObstacle_21 : decode cX2_openingObstacle 21 = .ok (.ifCond .eq 5, 3) := by decide +kernel
theorem dX2_openingObstacle_24 : decode cX2_openingObstacle 24 = .ok (.iconst 2, 1) := by decide +kernel
theorem dX2_openingObstacle_25 : decode cX2_openingObstacle 25 = .ok (.ireturn, 1) := by decide +kernel
theorem dX2_openingObstacle_26 : decode cX2_openingObstacle 26 = .ok (.aload_n 0, 1) := by decide +kernel
theorem dX2_openingObstacle_27 : decode cX2_openingObstacle 27 = .ok (.getfield 37, 3) := by decide +kernel
theorem dX2_openingObstacle_30 : decode cX2_openingObstacle 30 = .ok (.iload_n 1, 1) := by decide +kernel
theorem dX2_openingObstacle_31 : decode cX2_openingObstacle 31 = .ok (.invokevirtual 63, 3) := by decide +kernel
theorem dX2_openingObstacle_34 : decode cX2_openingObstacle 34 = .ok (.ifCond .eq 7, 3) := by decide +kernel
theorem dX2_openingObstacle_37 : decode cX2_openingObstacle 37 = .ok (.iconst 3, 1) := by decide +kernel
theorem dX2_openingObstacle_38 : decode cX2_openingObstacle 38 = .ok (.goto 4, 3) := by decide +kernel
theorem dX2_openingObstacle_41 : decode cX2_openingObstacle 41 = .ok (.iconst 0, 1) := by decide +kernel
theorem dX2_openingObstacle_42 : decode cX2_openingObstacle 42 = .ok (.ireturn, 1) := by decide +kernel
set_option maxRecDepth 20000 in
theorem ggX2_movingObstacle_X2_nextPlace : GoodIn wsX2_movingObstacle wsX2_nextPlace := goodIn_r _ [6, 7, 8, 9, 10, 11, 12, 13, 75, 76, 77, 78, 79, 80, 81, 82] (by decide +kernel) (by decide +kernel)
set_option maxRecDepth 20000 in
theorem gX2_movingObstacle_X2_nextPlace : GoodIn wsX2_movingObstacle (wsV RX2 66 RX2 yX2_nextPlace wsX2_nextPlace) := goodIn_app (goodIn_of _ (by decide +kernel)) ggX2_movingObstacle_X2_nextPlace
set_option maxRecDepth 20000 in
theorem ggX2_movingObstacle_X2_poundPlace : GoodIn wsX2_movingObstacle wsX2_poundPlace := goodIn_r _ [17, 18, 19, 20, 21, 22, 23, 24, 75, 76, 77, 78, 83, 84, 85, 86, 87, 88, 89, 90] (by decide +kernel) (by decide +kernel)
set_option maxRecDepth 20000 in
theorem gX2_movingObstacle_X2_poundPlace : GoodIn wsX2_movingObstacle (wsV RX2 70 RX2 yX2_poundPlace wsX2_poundPlace) := goodIn_app (goodIn_of _ (by decide +kernel)) ggX2_movingObstacle_X2_poundPlace
set_option maxRecDepth 20000 in
theorem ggX2_movingObstacle_X2_gateTo : GoodIn wsX2_movingObstacle wsX2_gateTo := goodIn_r _ [28, 7, 29, 30, 31, 32, 8, 9, 10, 11, 12, 13, 75, 76, 77, 78, 79, 80, 81, 82] (by decide +kernel) (by decide +kernel)
set_option maxRecDepth 20000 in
theorem gX2_movingObstacle_X2_gateTo : GoodIn wsX2_movingObstacle (wsV RX2 73 RX2 yX2_gateTo wsX2_gateTo) := goodIn_app (goodIn_of _ (by decide +kernel)) ggX2_movingObstacle_X2_gateTo
set_option maxRecDepth 20000 in
theorem ggX2_movingObstacle_X1_isOpenAt : GoodIn wsX2_movingObstacle wsX1_isOpenAt := goodIn_r _ [37, 38, 91, 92] (by decide +kernel) (by decide +kernel)
set_option maxRecDepth 20000 in
theorem gX2_movingObstacle_X1_isOpenAt : GoodIn wsX2_movingObstacle (wsV RX2 56 RX1 yX1_isOpenAt wsX1_isOpenAt) := goodIn_app (goodIn_of _ (by decide +kernel)) ggX2_movingObstacle_X1_isOpenAt
set_option maxRecDepth 20000 in
theorem ggX2_movingObstacle_X2_obstacleIn : GoodIn wsX2_movingObstacle wsX2_obstacleIn := goodIn_r _ [42, 18, 7, 14, 15, 16, 5, 17, 19, 20, 21, 22, 23, 24, 43, 44, 45, 46, 47, 48, 49, 50, 51, 52, 53, 54, 55, 56, 57, 58, 59, 60, 11, 61, 62, 63, 64, 65, 66, 67, 68, 9, 10, 12, 13, 69, 70, 71, 72, 73, 74, 75, 76, 77, 78, 83, 84, 85, 86, 87, 88, 89, 90, 79, 80, 81, 82] (by decide +kernel) (by decide +kernel)
set_option maxRecDepth 20000 in
theorem gX2_movingObstacle_X2_obstacleIn : GoodIn wsX2_movingObstacle (wsV RX2 77 RX2 yX2_obstacleIn wsX2_obstacleIn) := goodIn_app (goodIn_of _ (by decide +kernel)) ggX2_movingObstacle_X2_obstacleIn
theorem dX2_movingObstacle_0 : decode cX2_movingObstacle 0 = .ok (.aload_n 0, 1) := by decide +kernel
theorem dX2_movingObstacle_1 : decode cX2_movingObstacle 1 = .ok (.iload_n 1, 1) := by decide +kernel
theorem dX2_movingObstacle_2 : decode cX2_movingObstacle 2 = .ok (.iload_n 2, 1) := by decide +kernel
theorem dX2_movingObstacle_3 : decode cX2_movingObstacle 3 = .ok (.invokevirtual 66, 3) := by decide +kernel
theorem dX2_movingObstacle_6 : decode cX2_movingObstacle 6 = .ok (.istore_n 3, 1) := by decide +kernel
theorem dX2_movingObstacle_7 : decode cX2_movingObstacle 7 = .ok (.iload_n 3, 1) := by decide +kernel
theorem dX2_movingObstacle_8 : decode cX2_movingObstacle 8 = .ok (.ifCond .lt 11, 3) := by decide +kernel
theorem dX2_movingObstacle_11 : decode cX2_movingObstacle 11 = .ok (.iload_n 3, 1) := by decide +kernel
theorem dX2_movingObstacle_12 : decode cX2_movingObstacle 12 = .ok (.aload_n 0, 1) := by decide +kernel
theorem dX2_movingObstacle_13 : decode cX2_movingObstacle 13 = .ok (.invokevirtual 70, 3) := by decide +kernel
theorem dX2_movingObstacle_16 : decode cX2_movingObstacle 16 = .ok (.if_icmp .le 5, 3) := by decide +kernel
theorem dX2_movingObstacle_19 : decode cX2_movingObstacle 19 = .ok (.iconst 1, 1) := by decide +kernel
theorem dX2_movingObstacle_20 : decode cX2_movingObstacle 20 = .ok (.ireturn, 1) := by decide +kernel
theorem dX2_movingObstacle_21 : decode cX2_movingObstacle 21 = .ok (.aload_n 0, 1) := by decide +kernel
theorem dX2_movingObstacle_22 : decode cX2_movingObstacle 22 = .ok (.getfield 12, 3) := by decide +kernel
theorem dX2_movingObstacle_25 : decode cX2_movingObstacle 25 = .ok (.aload_n 0, 1) := by decide +kernel
theorem dX2_movingObstacle_26 : decode cX2_movingObstacle 26 = .ok (.iload_n 1, 1) := by decide +kernel
theorem dX2_movingObstacle_27 : decode cX2_movingObstacle 27 = .ok (.iload_n 3, 1) := by decide +kernel
theorem dX2_movingObstacle_28 : decode cX2_movingObstacle 28 = .ok (.invokevirtual 73, 3) := by decide +kernel
theorem dX2_movingObstacle_31 : decode cX2_movingObstacle 31 = .ok (.invokevirtual 56, 3) := by decide +kernel
theorem dX2_movingObstacle_34 : decode cX2_movingObstacle 34 = .ok (.ifCond .eq 12, 3) := by decide +kernel
theorem dX2_movingObstacle_37 : decode cX2_movingObstacle 37 = .ok (.aload_n 0, 1) := by decide +kernel
theorem dX2_movingObstacle_38 : decode cX2_movingObstacle 38 = .ok (.iload_n 3, 1) := by decide +kernel
theorem dX2_movingObstacle_39 : decode cX2_movingObstacle 39 = .ok (.iload_n 1, 1) := by decide +kernel
theorem dX2_movingObstacle_40 : decode cX2_movingObstacle 40 = .ok (.invokevirtual 77, 3) := by decide +kernel
theorem dX2_movingObstacle_43 : decode cX2_movingObstacle 43 = .ok (.goto 4, 3) := by decide +kernel
theorem dX2_movingObstacle_46 : decode cX2_movingObstacle 46 = .ok (.iconst 2, 1) := by decide +kernel
theorem dX2_movingObstacle_47 : decode cX2_movingObstacle 47 = .ok (.ireturn, 1) := by decide +kernel
set_option maxRecDepth 20000 in
theorem ggX2_gateTo_X0_placeAt : GoodIn wsX2_gateTo wsX0_placeAt := goodIn_r _ [10, 11, 16, 17, 18, 19] (by decide +kernel) (by decide +kernel)
set_option maxRecDepth 20000 in
theorem gX2_gateTo_X0_placeAt : GoodIn wsX2_gateTo (wsV RX2 52 RX0 yX0_placeAt wsX0_placeAt) := goodIn_app (goodIn_of _ (by decide +kernel)) ggX2_gateTo_X0_placeAt
theorem dX2_gateTo_0 : decode cX2_gateTo 0 = .ok (.aload_n 0, 1) := by decide +kernel
theorem dX2_gateTo_1 : decode cX2_gateTo 1 = .ok (.getfield 21, 3) := by decide +kernel
theorem dX2_gateTo_4 : decode cX2_gateTo 4 = .ok (.iload_n 1, 1) := by decide +kernel
theorem dX2_gateTo_5 : decode cX2_gateTo 5 = .ok (.invokevirtual 52, 3) := by decide +kernel
theorem dX2_gateTo_8 : decode cX2_gateTo 8 = .ok (.iload_n 2, 1) := by decide +kernel
theorem dX2_gateTo_9 : decode cX2_gateTo 9 = .ok (.invokestatic 80, 3) := by decide +kernel
theorem dX2_gateTo_12 : decode cX2_gateTo 12 = .ok (.ireturn, 1) := by decide +kernel
set_option maxRecDepth 20000 in
theorem ggX2_obstacleIn_X2_poundPlace : GoodIn wsX2_obstacleIn wsX2_poundPlace := goodIn_r _ [7, 1, 8, 9, 10, 11, 12, 13, 51, 52, 53, 54, 55, 56, 57, 58, 59, 60, 61, 62] (by decide +kernel) (by decide +kernel)
set_option maxRecDepth 20000 in
theorem gX2_obstacleIn_X2_poundPlace : GoodIn wsX2_obstacleIn (wsV RX2 70 RX2 yX2_poundPlace wsX2_poundPlace) := goodIn_app (goodIn_of _ (by decide +kernel)) ggX2_obstacleIn_X2_poundPlace
set_option maxRecDepth 20000 in
theorem ggX2_obstacleIn_X4_depth : GoodIn wsX2_obstacleIn wsX4_depth := goodIn_r _ [17, 13, 18, 19, 20, 21, 11, 22, 23, 24, 25, 26, 27, 28, 55, 56, 57, 58, 59, 60, 61, 62] (by decide +kernel) (by decide +kernel)
set_option maxRecDepth 20000 in
theorem gX2_obstacleIn_X4_depth : GoodIn wsX2_obstacleIn (wsV RX2 85 RX4 yX4_depth wsX4_depth) := goodIn_app (goodIn_of _ (by decide +kernel)) ggX2_obstacleIn_X4_depth
set_option maxRecDepth 20000 in
theorem ggX2_obstacleIn_X0_draughtAt : GoodIn wsX2_obstacleIn wsX0_draughtAt := goodIn_r _ [33, 34, 63, 64, 65, 66] (by decide +kernel) (by decide +kernel)
set_option maxRecDepth 20000 in
theorem gX2_obstacleIn_X0_draughtAt : GoodIn wsX2_obstacleIn (wsV RX2 88 RX0 yX0_draughtAt wsX0_draughtAt) := goodIn_app (goodIn_of _ (by decide +kernel)) ggX2_obstacleIn_X0_draughtAt
set_option maxRecDepth 20000 in
theorem ggX2_obstacleIn_X0_lengthIn : GoodIn wsX2_obstacleIn wsX0_lengthIn := goodIn_r _ [38, 39, 40, 41, 42, 32, 43, 44, 45, 46, 47, 48, 49, 63, 64, 65, 66] (by decide +kernel) (by decide +kernel)
set_option maxRecDepth 20000 in
theorem gX2_obstacleIn_X0_lengthIn : GoodIn wsX2_obstacleIn (wsV RX2 91 RX0 yX0_lengthIn wsX0_lengthIn) := goodIn_app (goodIn_of _ (by decide +kernel)) ggX2_obstacleIn_X0_lengthIn
set_option maxRecDepth 20000 in
theorem ggX2_obstacleIn_X0_lengthAt : GoodIn wsX2_obstacleIn wsX0_lengthAt := goodIn_r _ [48, 49, 63, 64, 65, 66] (by decide +kernel) (by decide +kernel)
set_option maxRecDepth 20000 in
theorem gX2_obstacleIn_X0_lengthAt : GoodIn wsX2_obstacleIn (wsV RX2 94 RX0 yX0_lengthAt wsX0_lengthAt) := goodIn_app (goodIn_of _ (by decide +kernel)) ggX2_obstacleIn_X0_lengthAt
theorem dX2_obstacleIn_0 : decode cX2_obstacleIn 0 = .ok (.iload_n 1, 1) := by decide +kernel
theorem dX2_obstacleIn_1 : decode cX2_obstacleIn 1 = .ok (.aload_n 0, 1) := by decide +kernel
theorem dX2_obstacleIn_2 : decode cX2_obstacleIn 2 = .ok (.invokevirtual 70, 3) := by decide +kernel
theorem dX2_obstacleIn_5 : decode cX2_obstacleIn 5 = .ok (.if_icmp .ne 27, 3) := by decide +kernel
theorem dX2_obstacleIn_8 : decode cX2_obstacleIn 8 = .ok (.aload_n 0, 1) := by decide +kernel
theorem dX2_obstacleIn_9 : decode cX2_obstacleIn 9 = .ok (.getfield 37, 3) := by decide +kernel
theorem dX2_obstacleIn_12 : decode cX2_obstacleIn 12 = .ok (.invokevirtual 85, 3) := by decide +kernel
theorem dX2_obstacleIn_15 : decode cX2_obstacleIn 15 = .ok (.aload_n 0, 1) := by decide +kernel
theorem dX2_obstacleIn_16 : decode cX2_obstacleIn 16 = .ok (.getfield 21, 3) := by decide +kernel
theorem dX2_obstacleIn_19 : decode cX2_obstacleIn 19 = .ok (.iload_n 2, 1) := by decide +kernel
theorem dX2_obstacleIn_20 : decode cX2_obstacleIn 20 = .ok (.invokevirtual 88, 3) := by decide +kernel
theorem dX2_obstacleIn_23 : decode cX2_obstacleIn 23 = .ok (.if_icmp .ge 7, 3) := by decide +kernel
theorem dX2_obstacleIn_26 : decode cX2_obstacleIn 26 = .ok (.iconst 4, 1) := by decide +kernel
theorem dX2_obstacleIn_27 : decode cX2_obstacleIn 27 = .ok (.goto 4, 3) := by decide +kernel
theorem dX2_obstacleIn_30 : decode cX2_obstacleIn 30 = .ok (.iconst 0, 1) := by decide +kernel
theorem dX2_obstacleIn_31 : decode cX2_obstacleIn 31 = .ok (.ireturn, 1) := by decide +kernel
theorem dX2_obstacleIn_32 : decode cX2_obstacleIn 32 = .ok (.iload_n 1, 1) := by decide +kernel
theorem dX2_obstacleIn_33 : decode cX2_obstacleIn 33 = .ok (.ifCond .eq 25, 3) := by decide +kernel
theorem dX2_obstacleIn_36 : decode cX2_obstacleIn 36 = .ok (.aload_n 0, 1) := by decide +kernel
theorem dX2_obstacleIn_37 : decode cX2_obstacleIn 37 = .ok (.getfield 21, 3) := by decide +kernel
theorem dX2_obstacleIn_40 : decode cX2_obstacleIn 40 = .ok (.iload_n 1, 1) := by decide +kernel
theorem dX2_obstacleIn_41 : decode cX2_obstacleIn 41 = .ok (.invokevirtual 91, 3) := by decide +kernel
theorem dX2_obstacleIn_44 : decode cX2_obstacleIn 44 = .ok (.aload_n 0, 1) := by decide +kernel
theorem dX2_obstacleIn_45 : decode cX2_obstacleIn 45 = .ok (.getfield 21, 3) := by decide +kernel
theorem dX2_obstacleIn_48 : decode cX2_obstacleIn 48 = .ok (.iload_n 2, 1) := by decide +kernel
theorem dX2_obstacleIn_49 : decode cX2_obstacleIn 49 = .ok (.invokevirtual 94, 3) := by decide +kernel
theorem dX2_obstacleIn_52 : decode cX2_obstacleIn 52 = .ok (.iadd, 1) := by decide +kernel
theorem dX2_obstacleIn_53 : decode cX2_obstacleIn 53 = .ok (.bipush 60, 2) := by decide +kernel
theorem dX2_obstacleIn_55 : decode cX2_obstacleIn 55 = .ok (.if_icmp .gt 7, 3) := by decide +kernel
theorem dX2_obstacleIn_58 : decode cX2_obstacleIn 58 = .ok (.iconst 1, 1) := by decide +kernel
theorem dX2_obstacleIn_59 : decode cX2_obstacleIn 59 = .ok (.goto 4, 3) := by decide +kernel
theorem dX2_obstacleIn_62 : decode cX2_obstacleIn 62 = .ok (.iconst 0, 1) := by decide +kernel
theorem dX2_obstacleIn_63 : decode cX2_obstacleIn 63 = .ok (.istore_n 3, 1) := by decide +kernel
theorem dX2_obstacleIn_64 : decode cX2_obstacleIn 64 = .ok (.iload_n 3, 1) := by decide +kernel
theorem dX2_obstacleIn_65 : decode cX2_obstacleIn 65 = .ok (.ifCond .eq 7, 3) := by decide +kernel
theorem dX2_obstacleIn_68 : decode cX2_obstacleIn 68 = .ok (.iconst 0, 1) := by decide +kernel
theorem dX2_obstacleIn_69 : decode cX2_obstacleIn 69 = .ok (.goto 4, 3) := by decide +kernel
theorem dX2_obstacleIn_72 : decode cX2_obstacleIn 72 = .ok (.iconst 3, 1) := by decide +kernel
theorem dX2_obstacleIn_73 : decode cX2_obstacleIn 73 = .ok (.ireturn, 1) := by decide +kernel
set_option maxRecDepth 20000 in
theorem ggX2_passMinute_X4_count : GoodIn wsX2_passMinute wsX4_count := goodIn_r _ [7, 8, 48, 49, 50, 51, 52, 53, 54, 55] (by decide +kernel) (by decide +kernel)
set_option maxRecDepth 20000 in
theorem gX2_passMinute_X4_count : GoodIn wsX2_passMinute (wsV RX2 48 RX4 yX4_count wsX4_count) := goodIn_app (goodIn_of _ (by decide +kernel)) ggX2_passMinute_X4_count
set_option maxRecDepth 20000 in
theorem ggX2_passMinute_X1_turnsAt : GoodIn wsX2_passMinute wsX1_turnsAt := goodIn_r _ [13, 14, 56, 57] (by decide +kernel) (by decide +kernel)
set_option maxRecDepth 20000 in
theorem gX2_passMinute_X1_turnsAt : GoodIn wsX2_passMinute (wsV RX2 101 RX1 yX1_turnsAt wsX1_turnsAt) := goodIn_app (goodIn_of _ (by decide +kernel)) ggX2_passMinute_X1_turnsAt
set_option maxRecDepth 20000 in
theorem ggX2_passMinute_X4_flow : GoodIn wsX2_passMinute wsX4_flow := goodIn_r _ [18, 8, 19, 20, 21, 6, 22, 23, 24, 25, 26, 27, 28, 29, 30, 31, 32, 33, 34, 35, 36, 37, 38, 39, 40, 41, 42, 43, 48, 49, 50, 51, 52, 53, 54, 55] (by decide +kernel) (by decide +kernel)
set_option maxRecDepth 20000 in
theorem gX2_passMinute_X4_flow : GoodIn wsX2_passMinute (wsV RX2 104 RX4 yX4_flow wsX4_flow) := goodIn_app (goodIn_of _ (by decide +kernel)) ggX2_passMinute_X4_flow
theorem dX2_passMinute_0 : decode cX2_passMinute 0 = .ok (.aload_n 0, 1) := by decide +kernel
theorem dX2_passMinute_1 : decode cX2_passMinute 1 = .ok (.getfield 37, 3) := by decide +kernel
theorem dX2_passMinute_4 : decode cX2_passMinute 4 = .ok (.dup, 1) := by decide +kernel
theorem dX2_passMinute_5 : decode cX2_passMinute 5 = .ok (.getfield 97, 3) := by decide +kernel
theorem dX2_passMinute_8 : decode cX2_passMinute 8 = .ok (.iconst 1, 1) := by decide +kernel
theorem dX2_passMinute_9 : decode cX2_passMinute 9 = .ok (.iadd, 1) := by decide +kernel
theorem dX2_passMinute_10 : decode cX2_passMinute 10 = .ok (.putfield 97, 3) := by decide +kernel
theorem dX2_passMinute_13 : decode cX2_passMinute 13 = .ok (.iconst 0, 1) := by decide +kernel
theorem dX2_passMinute_14 : decode cX2_passMinute 14 = .ok (.istore_n 1, 1) := by decide +kernel
theorem dX2_passMinute_15 : decode cX2_passMinute 15 = .ok (.iconst 0, 1) := by decide +kernel
theorem dX2_passMinute_16 : decode cX2_passMinute 16 = .ok (.istore_n 2, 1) := by decide +kernel
theorem dX2_passMinute_17 : decode cX2_passMinute 17 = .ok (.iload_n 2, 1) := by decide +kernel
theorem dX2_passMinute_18 : decode cX2_passMinute 18 = .ok (.aload_n 0, 1) := by decide +kernel
theorem dX2_passMinute_19 : decode cX2_passMinute 19 = .ok (.getfield 37, 3) := by decide +kernel
theorem dX2_passMinute_22 : decode cX2_passMinute 22 = .ok (.invokevirtual 48, 3) := by decide +kernel
theorem dX2_passMinute_25 : decode cX2_passMinute 25 = .ok (.if_icmp .gt 30, 3) := by decide +kernel
theorem dX2_passMinute_28 : decode cX2_passMinute 28 = .ok (.iload_n 1, 1) := by decide +kernel
theorem dX2_passMinute_29 : decode cX2_passMinute 29 = .ok (.aload_n 0, 1) := by decide +kernel
theorem dX2_passMinute_30 : decode cX2_passMinute 30 = .ok (.getfield 37, 3) := by decide +kernel
theorem dX2_passMinute_33 : decode cX2_passMinute 33 = .ok (.iload_n 2, 1) := by decide +kernel
theorem dX2_passMinute_34 : decode cX2_passMinute 34 = .ok (.iconst 4, 1) := by decide +kernel
theorem dX2_passMinute_35 : decode cX2_passMinute 35 = .ok (.aload_n 0, 1) := by decide +kernel
theorem dX2_passMinute_36 : decode cX2_passMinute 36 = .ok (.getfield 12, 3) := by decide +kernel
theorem dX2_passMinute_39 : decode cX2_passMinute 39 = .ok (.iload_n 2, 1) := by decide +kernel
theorem dX2_passMinute_40 : decode cX2_passMinute 40 = .ok (.invokevirtual 101, 3) := by decide +kernel
theorem dX2_passMinute_43 : decode cX2_passMinute 43 = .ok (.imul, 1) := by decide +kernel
theorem dX2_passMinute_44 : decode cX2_passMinute 44 = .ok (.invokevirtual 104, 3) := by decide +kernel
theorem dX2_passMinute_47 : decode cX2_passMinute 47 = .ok (.iadd, 1) := by decide +kernel
theorem dX2_passMinute_48 : decode cX2_passMinute 48 = .ok (.istore_n 1, 1) := by decide +kernel
theorem dX2_passMinute_49 : decode cX2_passMinute 49 = .ok (.iinc 2 1, 3) := by decide +kernel
theorem dX2_passMinute_52 : decode cX2_passMinute 52 = .ok (.goto (-35), 3) := by decide +kernel
theorem dX2_passMinute_55 : decode cX2_passMinute 55 = .ok (.iload_n 1, 1) := by decide +kernel
theorem dX2_passMinute_56 : decode cX2_passMinute 56 = .ok (.ireturn, 1) := by decide +kernel
set_option maxRecDepth 20000 in
theorem ggX2_bring_X3_clear : GoodIn wsX2_bring wsX3_clear := goodIn_r _ [9, 10, 149, 150, 151, 152] (by decide +kernel) (by decide +kernel)
set_option maxRecDepth 20000 in
theorem gX2_bring_X3_clear : GoodIn wsX2_bring (wsV RX2 107 RX3 yX3_clear wsX3_clear) := goodIn_app (goodIn_of _ (by decide +kernel)) ggX2_bring_X3_clear
set_option maxRecDepth 20000 in
theorem ggX2_bring_X1_closeAll : GoodIn wsX2_bring wsX1_closeAll := goodIn_r _ [15, 16, 17, 18, 14, 19, 20, 21, 22, 23, 24, 25, 153, 154] (by decide +kernel) (by decide +kernel)
set_option maxRecDepth 20000 in
theorem gX2_bring_X1_closeAll : GoodIn wsX2_bring (wsV RX2 110 RX1 yX1_closeAll wsX1_closeAll) := goodIn_app (goodIn_of _ (by decide +kernel)) ggX2_bring_X1_closeAll
set_option maxRecDepth 20000 in
theorem ggX2_bring_X2_poundPlace : GoodIn wsX2_bring wsX2_poundPlace := goodIn_r _ [30, 4, 31, 32, 33, 34, 35, 36, 145, 146, 147, 148, 155, 156, 157, 158, 159, 160, 161, 162] (by decide +kernel) (by decide +kernel)
set_option maxRecDepth 20000 in
theorem gX2_bring_X2_poundPlace : GoodIn wsX2_bring (wsV RX2 70 RX2 yX2_poundPlace wsX2_poundPlace) := goodIn_app (goodIn_of _ (by decide +kernel)) ggX2_bring_X2_poundPlace
set_option maxRecDepth 20000 in
theorem ggX2_bring_X0_placeAt : GoodIn wsX2_bring wsX0_placeAt := goodIn_r _ [41, 42, 163, 164, 165, 166] (by decide +kernel) (by decide +kernel)
set_option maxRecDepth 20000 in
theorem gX2_bring_X0_placeAt : GoodIn wsX2_bring (wsV RX2 52 RX0 yX0_placeAt wsX0_placeAt) := goodIn_app (goodIn_of _ (by decide +kernel)) ggX2_bring_X0_placeAt
set_option maxRecDepth 20000 in
theorem ggX2_bring_X2_nextPlace : GoodIn wsX2_bring wsX2_nextPlace := goodIn_r _ [46, 3, 37, 38, 39, 40, 41, 42, 145, 146, 147, 148, 163, 164, 165, 166] (by decide +kernel) (by decide +kernel)
set_option maxRecDepth 20000 in
theorem gX2_bring_X2_nextPlace : GoodIn wsX2_bring (wsV RX2 66 RX2 yX2_nextPlace wsX2_nextPlace) := goodIn_app (goodIn_of _ (by decide +kernel)) ggX2_bring_X2_nextPlace
set_option maxRecDepth 20000 in
theorem ggX2_bring_X2_gateTo : GoodIn wsX2_bring wsX2_gateTo := goodIn_r _ [50, 3, 51, 52, 53, 54, 37, 38, 39, 40, 41, 42, 145, 146, 147, 148, 163, 164, 165, 166] (by decide +kernel) (by decide +kernel)
set_option maxRecDepth 20000 in
theorem gX2_bring_X2_gateTo : GoodIn wsX2_bring (wsV RX2 73 RX2 yX2_gateTo wsX2_gateTo) := goodIn_app (goodIn_of _ (by decide +kernel)) ggX2_bring_X2_gateTo
set_option maxRecDepth 20000 in
theorem ggX2_bring_X4_count : GoodIn wsX2_bring wsX4_count := goodIn_r _ [35, 36, 155, 156, 157, 158, 159, 160, 161, 162] (by decide +kernel) (by decide +kernel)
set_option maxRecDepth 20000 in
theorem gX2_bring_X4_count : GoodIn wsX2_bring (wsV RX2 48 RX4 yX4_count wsX4_count) := goodIn_app (goodIn_of _ (by decide +kernel)) ggX2_bring_X4_count
set_option maxRecDepth 20000 in
theorem ggX2_bring_X4_levelHighestGate : GoodIn wsX2_bring wsX4_levelHighestGate := goodIn_r _ [58, 36, 59, 60, 61, 62, 63, 34, 64, 65, 66, 67, 68, 69, 70, 71, 72, 73, 74, 75, 76, 77, 78, 79, 80, 81, 82, 83, 84, 85, 86, 87, 88, 89, 90, 91, 92, 93, 94, 95, 96, 97, 98, 99, 100, 101, 52, 53, 54, 155, 156, 157, 158, 159, 160, 161, 162] (by decide +kernel) (by decide +kernel)
set_option maxRecDepth 20000 in
theorem gX2_bring_X4_levelHighestGate : GoodIn wsX2_bring (wsV RX2 113 RX4 yX4_levelHighestGate wsX4_levelHighestGate) := goodIn_app (goodIn_of _ (by decide +kernel)) ggX2_bring_X4_levelHighestGate
set_option maxRecDepth 20000 in
theorem ggX2_bring_X4_levelLowerGate : GoodIn wsX2_bring wsX4_levelLowerGate := goodIn_r _ [105, 76, 77, 78, 34, 79, 80, 94, 95, 96, 36, 59, 65, 66, 67, 68, 69, 70, 71, 72, 73, 74, 75, 85, 86, 87, 88, 97, 98, 99, 100, 101, 52, 53, 54, 60, 81, 82, 83, 84, 89, 90, 91, 92, 93, 106, 107, 108, 155, 156, 157, 158, 159, 160, 161, 162] (by decide +kernel) (by decide +kernel)
set_option maxRecDepth 20000 in
theorem gX2_bring_X4_levelLowerGate : GoodIn wsX2_bring (wsV RX2 117 RX4 yX4_levelLowerGate wsX4_levelLowerGate) := goodIn_app (goodIn_of _ (by decide +kernel)) ggX2_bring_X4_levelLowerGate
set_option maxRecDepth 20000 in
theorem ggX2_bring_X3_fail : GoodIn wsX2_bring wsX3_fail := goodIn_r _ [112, 113, 114, 115, 10, 149, 150, 151, 152] (by decide +kernel) (by decide +kernel)
set_option maxRecDepth 20000 in
theorem gX2_bring_X3_fail : GoodIn wsX2_bring (wsV RX2 120 RX3 yX3_fail wsX3_fail) := goodIn_app (goodIn_of _ (by decide +kernel)) ggX2_bring_X3_fail
set_option maxRecDepth 20000 in
theorem ggX2_bring_X2_obstacleIn : GoodIn wsX2_bring wsX2_obstacleIn := goodIn_r _ [119, 4, 3, 26, 27, 28, 29, 30, 31, 32, 33, 34, 35, 36, 120, 121, 122, 123, 70, 65, 66, 67, 68, 69, 71, 72, 73, 74, 75, 124, 125, 126, 40, 127, 128, 129, 130, 131, 132, 133, 134, 38, 39, 41, 42, 135, 136, 137, 138, 139, 140, 145, 146, 147, 148, 155, 156, 157, 158, 159, 160, 161, 162, 163, 164, 165, 166] (by decide +kernel) (by decide +kernel)
set_option maxRecDepth 20000 in
theorem gX2_bring_X2_obstacleIn : GoodIn wsX2_bring (wsV RX2 77 RX2 yX2_obstacleIn wsX2_obstacleIn) := goodIn_app (goodIn_of _ (by decide +kernel)) ggX2_bring_X2_obstacleIn
set_option maxRecDepth 20000 in
theorem ggX2_bring_X0_put : GoodIn wsX2_bring wsX0_put := goodIn_r _ [144, 42, 163, 164, 165, 166] (by decide +kernel) (by decide +kernel)
set_option maxRecDepth 20000 in
theorem gX2_bring_X0_put : GoodIn wsX2_bring (wsV RX2 123 RX0 yX0_put wsX0_put) := goodIn_app (goodIn_of _ (by decide +kernel)) ggX2_bring_X0_put
theorem dX2_bring_0 : decode cX2_bring 0 = .ok (.aload_n 0, 1) := by decide +kernel
theorem dX2_bring_1 : decode cX2_bring 1 = .ok (.getfield 28, 3) := by decide +kernel
theorem dX2_bring_4 : decode cX2_bring 4 = .ok (.invokevirtual 107, 3) := by decide +kernel
theorem dX2_bring_7 : decode cX2_bring 7 = .ok (.aload_n 0, 1) := by decide +kernel
theorem dX2_bring_8 : decode cX2_bring 8 = .ok (.getfield 12, 3) := by decide +kernel
theorem dX2_bring_11 : decode cX2_bring 11 = .ok (.invokevirtual 110, 3) := by decide +kernel
theorem dX2_bring_14 : decode cX2_bring 14 = .ok (.iload_n 2, 1) := by decide +kernel
theorem dX2_bring_15 : decode cX2_bring 15 = .ok (.ifCond .eq 10, 3) := by decide +kernel
theorem dX2_bring_18 : decode cX2_bring 18 = .ok (.aload_n 0, 1) := by decide +kernel
theorem dX2_bring_19 : decode cX2_bring 19 = .ok (.invokevirtual 70, 3) := by decide +kernel
theorem dX2_bring_22 : decode cX2_bring 22 = .ok (.goto 4, 3) := by decide +kernel
theorem dX2_bring_25 : decode cX2_bring 25 = .ok (.iconst 0, 1) := by decide +kernel
theorem dX2_bring_26 : decode cX2_bring 26 = .ok (.istore_n 3, 1) := by decide +kernel
theorem dX2_bring_27 : decode cX2_bring 27 = .ok (.iconst 0, 1) := by decide +kernel
theorem dX2_bring_28 : decode cX2_bring 28 = .ok (.istore 4, 2) := by decide +kernel
theorem dX2_bring_30 : decode cX2_bring 30 = .ok (.iload 4, 2) := by decide +kernel
theorem dX2_bring_32 : decode cX2_bring 32 = .ok (.bipush 7, 2) := by decide +kernel
theorem dX2_bring_34 : decode cX2_bring 34 = .ok (.if_icmp .ge 156, 3) := by decide +kernel
theorem dX2_bring_37 : decode cX2_bring 37 = .ok (.aload_n 0, 1) := by decide +kernel
theorem dX2_bring_38 : decode cX2_bring 38 = .ok (.getfield 21, 3) := by decide +kernel
theorem dX2_bring_41 : decode cX2_bring 41 = .ok (.iload_n 1, 1) := by decide +kernel
theorem dX2_bring_42 : decode cX2_bring 42 = .ok (.invokevirtual 52, 3) := by decide +kernel
theorem dX2_bring_45 : decode cX2_bring 45 = .ok (.iload_n 3, 1) := by decide +kernel
theorem dX2_bring_46 : decode cX2_bring 46 = .ok (.if_icmp .eq 144, 3) := by decide +kernel
theorem dX2_bring_49 : decode cX2_bring 49 = .ok (.aload_n 0, 1) := by decide +kernel
theorem dX2_bring_50 : decode cX2_bring 50 = .ok (.iload_n 1, 1) := by decide +kernel
theorem dX2_bring_51 : decode cX2_bring 51 = .ok (.iload_n 2, 1) := by decide +kernel
theorem dX2_bring_52 : decode cX2_bring 52 = .ok (.invokevirtual 66, 3) := by decide +kernel
theorem dX2_bring_55 : decode cX2_bring 55 = .ok (.istore 5, 2) := by decide +kernel
theorem dX2_bring_57 : decode cX2_bring 57 = .ok (.aload_n 0, 1) := by decide +kernel
theorem dX2_bring_58 : decode cX2_bring 58 = .ok (.iload_n 1, 1) := by decide +kernel
theorem dX2_bring_59 : decode cX2_bring 59 = .ok (.iload 5, 2) := by decide +kernel
theorem dX2_bring_61 : decode cX2_bring 61 = .ok (.invokevirtual 73, 3) := by decide +kernel
theorem dX2_bring_64 : decode cX2_bring 64 = .ok (.istore 6, 2) := by decide +kernel
theorem dX2_bring_66 : decode cX2_bring 66 = .ok (.iload 6, 2) := by decide +kernel
theorem dX2_bring_68 : decode cX2_bring 68 = .ok (.aload_n 0, 1) := by decide +kernel
theorem dX2_bring_69 : decode cX2_bring 69 = .ok (.getfield 37, 3) := by decide +kernel
theorem dX2_bring_72 : decode cX2_bring 72 = .ok (.invokevirtual 48, 3) := by decide +kernel
theorem dX2_bring_75 : decode cX2_bring 75 = .ok (.if_icmp .ne 7, 3) := by decide +kernel
theorem dX2_bring_78 : decode cX2_bring 78 = .ok (.iconst 1, 1) := by decide +kernel
theorem dX2_bring_79 : decode cX2_bring 79 = .ok (.goto 4, 3) := by decide +kernel
theorem dX2_bring_82 : decode cX2_bring 82 = .ok (.iconst 0, 1) := by decide +kernel
theorem dX2_bring_83 : decode cX2_bring 83 = .ok (.istore 7, 2) := by decide +kernel
theorem dX2_bring_85 : decode cX2_bring 85 = .ok (.iload 7, 2) := by decide +kernel
theorem dX2_bring_87 : decode cX2_bring 87 = .ok (.ifCond .eq 16, 3) := by decide +kernel
theorem dX2_bring_90 : decode cX2_bring 90 = .ok (.aload_n 0, 1) := by decide +kernel
theorem dX2_bring_91 : decode cX2_bring 91 = .ok (.getfield 37, 3) := by decide +kernel
theorem dX2_bring_94 : decode cX2_bring 94 = .ok (.invokevirtual 113, 3) := by decide +kernel
theorem dX2_bring_97 : decode cX2_bring 97 = .ok (.ifCond .eq 18, 3) := by decide +kernel
theorem dX2_bring_100 : decode cX2_bring 100 = .ok (.goto 47, 3) := by decide +kernel
theorem dX2_bring_103 : decode cX2_bring 103 = .ok (.aload_n 0, 1) := by decide +kernel
theorem dX2_bring_104 : decode cX2_bring 104 = .ok (.getfield 37, 3) := by decide +kernel
theorem dX2_bring_107 : decode cX2_bring 107 = .ok (.iload 6, 2) := by decide +kernel
theorem dX2_bring_109 : decode cX2_bring 109 = .ok (.invokevirtual 117, 3) := by decide +kernel
theorem dX2_bring_112 : decode cX2_bring 112 = .ok (.ifCond .ne 35, 3) := by decide +kernel
theorem dX2_bring_115 : decode cX2_bring 115 = .ok (.aload_n 0, 1) := by decide +kernel
theorem dX2_bring_116 : decode cX2_bring 116 = .ok (.getfield 28, 3) := by decide +kernel
theorem dX2_bring_119 : decode cX2_bring 119 = .ok (.iload 6, 2) := by decide +kernel
theorem dX2_bring_121 : decode cX2_bring 121 = .ok (.iload 7, 2) := by decide +kernel
theorem dX2_bring_123 : decode cX2_bring 123 = .ok (.ifCond .eq 7, 3) := by decide +kernel
theorem dX2_bring_126 : decode cX2_bring 126 = .ok (.iconst 0, 1) := by decide +kernel
theorem dX2_bring_127 : decode cX2_bring 127 = .ok (.goto 15, 3) := by decide +kernel
theorem dX2_bring_130 : decode cX2_bring 130 = .ok (.aload_n 0, 1) := by decide +kernel
theorem dX2_bring_131 : decode cX2_bring 131 = .ok (.getfield 37, 3) := by decide +kernel
theorem dX2_bring_134 : decode cX2_bring 134 = .ok (.invokevirtual 48, 3) := by decide +kernel
theorem dX2_bring_137 : decode cX2_bring 137 = .ok (.iload 6, 2) := by decide +kernel
theorem dX2_bring_139 : decode cX2_bring 139 = .ok (.isub, 1) := by decide +kernel
theorem dX2_bring_140 : decode cX2_bring 140 = .ok (.iconst 1, 1) := by decide +kernel
theorem dX2_bring_141 : decode cX2_bring 141 = .ok (.iadd, 1) := by decide +kernel
theorem dX2_bring_142 : decode cX2_bring 142 = .ok (.iconst 5, 1) := by decide +kernel
theorem dX2_bring_143 : decode cX2_bring 143 = .ok (.invokevirtual 120, 3) := by decide +kernel
theorem dX2_bring_146 : decode cX2_bring 146 = .ok (.return_, 1) := by decide +kernel
theorem dX2_bring_147 : decode cX2_bring 147 = .ok (.aload_n 0, 1) := by decide +kernel
theorem dX2_bring_148 : decode cX2_bring 148 = .ok (.iload 5, 2) := by decide +kernel
theorem dX2_bring_150 : decode cX2_bring 150 = .ok (.iload_n 1, 1) := by decide +kernel
theorem dX2_bring_151 : decode cX2_bring 151 = .ok (.invokevirtual 77, 3) := by decide +kernel
theorem dX2_bring_154 : decode cX2_bring 154 = .ok (.istore 8, 2) := by decide +kernel
theorem dX2_bring_156 : decode cX2_bring 156 = .ok (.iload 8, 2) := by decide +kernel
theorem dX2_bring_158 : decode cX2_bring 158 = .ok (.ifCond .eq 16, 3) := by decide +kernel
theorem dX2_bring_161 : decode cX2_bring 161 = .ok (.aload_n 0, 1) := by decide +kernel
theorem dX2_bring_162 : decode cX2_bring 162 = .ok (.getfield 28, 3) := by decide +kernel
theorem dX2_bring_165 : decode cX2_bring 165 = .ok (.iload 6, 2) := by decide +kernel
theorem dX2_bring_167 : decode cX2_bring 167 = .ok (.iconst 0, 1) := by decide +kernel
theorem dX2_bring_168 : decode cX2_bring 168 = .ok (.iload 8, 2) := by decide +kernel
theorem dX2_bring_170 : decode cX2_bring 170 = .ok (.invokevirtual 120, 3) := by decide +kernel
theorem dX2_bring_173 : decode cX2_bring 173 = .ok (.return_, 1) := by decide +kernel
theorem dX2_bring_174 : decode cX2_bring 174 = .ok (.aload_n 0, 1) := by decide +kernel
theorem dX2_bring_175 : decode cX2_bring 175 = .ok (.getfield 21, 3) := by decide +kernel
theorem dX2_bring_178 : decode cX2_bring 178 = .ok (.iload_n 1, 1) := by decide +kernel
theorem dX2_bring_179 : decode cX2_bring 179 = .ok (.iload 5, 2) := by decide +kernel
theorem dX2_bring_181 : decode cX2_bring 181 = .ok (.invokevirtual 123, 3) := by decide +kernel
theorem dX2_bring_184 : decode cX2_bring 184 = .ok (.iinc 4 1, 3) := by decide +kernel
theorem dX2_bring_187 : decode cX2_bring 187 = .ok (.goto (-157), 3) := by decide +kernel
theorem dX2_bring_190 : decode cX2_bring 190 = .ok (.return_, 1) := by decide +kernel
set_option maxRecDepth 20000 in
theorem ggX2_gatesHold_X4_count : GoodIn wsX2_gatesHold wsX4_count := goodIn_r _ [7, 8, 43, 44, 45, 46, 47, 48, 49, 50] (by decide +kernel) (by decide +kernel)
set_option maxRecDepth 20000 in
theorem gX2_gatesHold_X4_count : GoodIn wsX2_gatesHold (wsV RX2 48 RX4 yX4_count wsX4_count) := goodIn_app (goodIn_of _ (by decide +kernel)) ggX2_gatesHold_X4_count
set_option maxRecDepth 20000 in
theorem ggX2_gatesHold_X1_isOpenAt : GoodIn wsX2_gatesHold wsX1_isOpenAt := goodIn_r _ [13, 14, 51, 52] (by decide +kernel) (by decide +kernel)
set_option maxRecDepth 20000 in
theorem gX2_gatesHold_X1_isOpenAt : GoodIn wsX2_gatesHold (wsV RX2 56 RX1 yX1_isOpenAt wsX1_isOpenAt) := goodIn_app (goodIn_of _ (by decide +kernel)) ggX2_gatesHold_X1_isOpenAt
set_option maxRecDepth 20000 in
theorem ggX2_gatesHold_X4_headOver : GoodIn wsX2_gatesHold wsX4_headOver := goodIn_r _ [18, 19, 20, 21, 6, 22, 8, 23, 24, 25, 26, 27, 28, 29, 43, 44, 45, 46, 47, 48, 49, 50] (by decide +kernel) (by decide +kernel)
set_option maxRecDepth 20000 in
theorem gX2_gatesHold_X4_headOver : GoodIn wsX2_gatesHold (wsV RX2 63 RX4 yX4_headOver wsX4_headOver) := goodIn_app (goodIn_of _ (by decide +kernel)) ggX2_gatesHold_X4_headOver
set_option maxRecDepth 20000 in
theorem ggX2_gatesHold_X1_isSluiceUpBeside : GoodIn wsX2_gatesHold wsX1_isSluiceUpBeside := goodIn_r _ [33, 34, 35, 36, 12, 37, 38, 51, 52] (by decide +kernel) (by decide +kernel)
set_option maxRecDepth 20000 in
theorem gX2_gatesHold_X1_isSluiceUpBeside : GoodIn wsX2_gatesHold (wsV RX2 60 RX1 yX1_isSluiceUpBeside wsX1_isSluiceUpBeside) := goodIn_app (goodIn_of _ (by decide +kernel)) ggX2_gatesHold_X1_isSluiceUpBeside
theorem dX2_gatesHold_0 : decode cX2_gatesHold 0 = .ok (.iconst 0, 1) := by decide +kernel
theorem dX2_gatesHold_1 : decode cX2_gatesHold 1 = .ok (.istore_n 1, 1) := by decide +kernel
theorem dX2_gatesHold_2 : decode cX2_gatesHold 2 = .ok (.iload_n 1, 1) := by decide +kernel
theorem dX2_gatesHold_3 : decode cX2_gatesHold 3 = .ok (.aload_n 0, 1) := by decide +kernel
theorem dX2_gatesHold_4 : decode cX2_gatesHold 4 = .ok (.getfield 37, 3) := by decide +kernel
theorem dX2_gatesHold_7 : decode cX2_gatesHold 7 = .ok (.invokevirtual 48, 3) := by decide +kernel
theorem dX2_gatesHold_10 : decode cX2_gatesHold 10 = .ok (.if_icmp .gt 44, 3) := by decide +kernel
theorem dX2_gatesHold_13 : decode cX2_gatesHold 13 = .ok (.aload_n 0, 1) := by decide +kernel
theorem dX2_gatesHold_14 : decode cX2_gatesHold 14 = .ok (.getfield 12, 3) := by decide +kernel
theorem dX2_gatesHold_17 : decode cX2_gatesHold 17 = .ok (.iload_n 1, 1) := by decide +kernel
theorem dX2_gatesHold_18 : decode cX2_gatesHold 18 = .ok (.invokevirtual 56, 3) := by decide +kernel
theorem dX2_gatesHold_21 : decode cX2_gatesHold 21 = .ok (.ifCond .eq 27, 3) := by decide +kernel
theorem dX2_gatesHold_24 : decode cX2_gatesHold 24 = .ok (.aload_n 0, 1) := by decide +kernel
theorem dX2_gatesHold_25 : decode cX2_gatesHold 25 = .ok (.getfield 37, 3) := by decide +kernel
theorem dX2_gatesHold_28 : decode cX2_gatesHold 28 = .ok (.iload_n 1, 1) := by decide +kernel
theorem dX2_gatesHold_29 : decode cX2_gatesHold 29 = .ok (.invokevirtual 63, 3) := by decide +kernel
theorem dX2_gatesHold_32 : decode cX2_gatesHold 32 = .ok (.ifCond .ne 14, 3) := by decide +kernel
theorem dX2_gatesHold_35 : decode cX2_gatesHold 35 = .ok (.aload_n 0, 1) := by decide +kernel
theorem dX2_gatesHold_36 : decode cX2_gatesHold 36 = .ok (.getfield 12, 3) := by decide +kernel
theorem dX2_gatesHold_39 : decode cX2_gatesHold 39 = .ok (.iload_n 1, 1) := by decide +kernel
theorem dX2_gatesHold_40 : decode cX2_gatesHold 40 = .ok (.invokevirtual 60, 3) := by decide +kernel
theorem dX2_gatesHold_43 : decode cX2_gatesHold 43 = .ok (.ifCond .eq 5, 3) := by decide +kernel
theorem dX2_gatesHold_46 : decode cX2_gatesHold 46 = .ok (.iconst 0, 1) := by decide +kernel
theorem dX2_gatesHold_47 : decode cX2_gatesHold 47 = .ok (.ireturn, 1) := by decide +kernel
theorem dX2_gatesHold_48 : decode cX2_gatesHold 48 = .ok (.iinc 1 1, 3) := by decide +kernel
theorem dX2_gatesHold_51 : decode cX2_gatesHold 51 = .ok (.goto (-49), 3) := by decide +kernel
theorem dX2_gatesHold_54 : decode cX2_gatesHold 54 = .ok (.iconst 1, 1) := by decide +kernel
theorem dX2_gatesHold_55 : decode cX2_gatesHold 55 = .ok (.ireturn, 1) := by decide +kernel
set_option maxRecDepth 20000 in
theorem ggX2_boatsFit_X2_poundPlace : GoodIn wsX2_boatsFit wsX2_poundPlace := goodIn_r _ [6, 7, 8, 9, 10, 11, 12, 13, 30, 31, 32, 33, 34, 35, 36, 37, 38, 39, 40, 41] (by decide +kernel) (by decide +kernel)
set_option maxRecDepth 20000 in
theorem gX2_boatsFit_X2_poundPlace : GoodIn wsX2_boatsFit (wsV RX2 70 RX2 yX2_poundPlace wsX2_poundPlace) := goodIn_app (goodIn_of _ (by decide +kernel)) ggX2_boatsFit_X2_poundPlace
set_option maxRecDepth 20000 in
theorem ggX2_boatsFit_X0_lengthIn : GoodIn wsX2_boatsFit wsX0_lengthIn := goodIn_r _ [18, 19, 20, 21, 22, 17, 23, 24, 25, 26, 27, 28, 29, 42, 43, 44, 45] (by decide +kernel) (by decide +kernel)
set_option maxRecDepth 20000 in
theorem gX2_boatsFit_X0_lengthIn : GoodIn wsX2_boatsFit (wsV RX2 91 RX0 yX0_lengthIn wsX0_lengthIn) := goodIn_app (goodIn_of _ (by decide +kernel)) ggX2_boatsFit_X0_lengthIn
theorem dX2_boatsFit_0 : decode cX2_boatsFit 0 = .ok (.iconst 1, 1) := by decide +kernel
theorem dX2_boatsFit_1 : decode cX2_boatsFit 1 = .ok (.istore_n 1, 1) := by decide +kernel
theorem dX2_boatsFit_2 : decode cX2_boatsFit 2 = .ok (.iload_n 1, 1) := by decide +kernel
theorem dX2_boatsFit_3 : decode cX2_boatsFit 3 = .ok (.aload_n 0, 1) := by decide +kernel
theorem dX2_boatsFit_4 : decode cX2_boatsFit 4 = .ok (.invokevirtual 70, 3) := by decide +kernel
theorem dX2_boatsFit_7 : decode cX2_boatsFit 7 = .ok (.if_icmp .ge 24, 3) := by decide +kernel
theorem dX2_boatsFit_10 : decode cX2_boatsFit 10 = .ok (.aload_n 0, 1) := by decide +kernel
theorem dX2_boatsFit_11 : decode cX2_boatsFit 11 = .ok (.getfield 21, 3) := by decide +kernel
theorem dX2_boatsFit_14 : decode cX2_boatsFit 14 = .ok (.iload_n 1, 1) := by decide +kernel
theorem dX2_boatsFit_15 : decode cX2_boatsFit 15 = .ok (.invokevirtual 91, 3) := by decide +kernel
theorem dX2_boatsFit_18 : decode cX2_boatsFit 18 = .ok (.bipush 60, 2) := by decide +kernel
theorem dX2_boatsFit_20 : decode cX2_boatsFit 20 = .ok (.if_icmp .le 5, 3) := by decide +kernel
theorem dX2_boatsFit_23 : decode cX2_boatsFit 23 = .ok (.iconst 0, 1) := by decide +kernel
theorem dX2_boatsFit_24 : decode cX2_boatsFit 24 = .ok (.ireturn, 1) := by decide +kernel
theorem dX2_boatsFit_25 : decode cX2_boatsFit 25 = .ok (.iinc 1 1, 3) := by decide +kernel
theorem dX2_boatsFit_28 : decode cX2_boatsFit 28 = .ok (.goto (-26), 3) := by decide +kernel
theorem dX2_boatsFit_31 : decode cX2_boatsFit 31 = .ok (.iconst 1, 1) := by decide +kernel
theorem dX2_boatsFit_32 : decode cX2_boatsFit 32 = .ok (.ireturn, 1) := by decide +kernel
theorem dX3_init_0 : decode cX3_init 0 = .ok (.aload_n 0, 1) := by decide +kernel
theorem dX3_init_1 : decode cX3_init 1 = .ok (.invokespecial 3, 3) := by decide +kernel
theorem dX3_init_4 : decode cX3_init 4 = .ok (.aload_n 0, 1) := by decide +kernel
theorem dX3_init_5 : decode cX3_init 5 = .ok (.iconst (-1), 1) := by decide +kernel
theorem dX3_init_6 : decode cX3_init 6 = .ok (.putfield 9, 3) := by decide +kernel
theorem dX3_init_9 : decode cX3_init 9 = .ok (.aload_n 0, 1) := by decide +kernel
theorem dX3_init_10 : decode cX3_init 10 = .ok (.iconst (-1), 1) := by decide +kernel
theorem dX3_init_11 : decode cX3_init 11 = .ok (.putfield 15, 3) := by decide +kernel
theorem dX3_init_14 : decode cX3_init 14 = .ok (.aload_n 0, 1) := by decide +kernel
theorem dX3_init_15 : decode cX3_init 15 = .ok (.iconst (-1), 1) := by decide +kernel
theorem dX3_init_16 : decode cX3_init 16 = .ok (.putfield 18, 3) := by decide +kernel
theorem dX3_init_19 : decode cX3_init 19 = .ok (.return_, 1) := by decide +kernel
theorem dX3_clear_0 : decode cX3_clear 0 = .ok (.aload_n 0, 1) := by decide +kernel
theorem dX3_clear_1 : decode cX3_clear 1 = .ok (.iconst (-1), 1) := by decide +kernel
theorem dX3_clear_2 : decode cX3_clear 2 = .ok (.putfield 18, 3) := by decide +kernel
theorem dX3_clear_5 : decode cX3_clear 5 = .ok (.return_, 1) := by decide +kernel
theorem dX3_fail_0 : decode cX3_fail 0 = .ok (.aload_n 0, 1) := by decide +kernel
theorem dX3_fail_1 : decode cX3_fail 1 = .ok (.iload_n 1, 1) := by decide +kernel
theorem dX3_fail_2 : decode cX3_fail 2 = .ok (.putfield 9, 3) := by decide +kernel
theorem dX3_fail_5 : decode cX3_fail 5 = .ok (.aload_n 0, 1) := by decide +kernel
theorem dX3_fail_6 : decode cX3_fail 6 = .ok (.iload_n 1, 1) := by decide +kernel
theorem dX3_fail_7 : decode cX3_fail 7 = .ok (.iconst 1, 1) := by decide +kernel
theorem dX3_fail_8 : decode cX3_fail 8 = .ok (.isub, 1) := by decide +kernel
theorem dX3_fail_9 : decode cX3_fail 9 = .ok (.putfield 15, 3) := by decide +kernel
theorem dX3_fail_12 : decode cX3_fail 12 = .ok (.aload_n 0, 1) := by decide +kernel
theorem dX3_fail_13 : decode cX3_fail 13 = .ok (.iload_n 2, 1) := by decide +kernel
theorem dX3_fail_14 : decode cX3_fail 14 = .ok (.putfield 21, 3) := by decide +kernel
theorem dX3_fail_17 : decode cX3_fail 17 = .ok (.aload_n 0, 1) := by decide +kernel
theorem dX3_fail_18 : decode cX3_fail 18 = .ok (.iload_n 3, 1) := by decide +kernel
theorem dX3_fail_19 : decode cX3_fail 19 = .ok (.putfield 18, 3) := by decide +kernel
theorem dX3_fail_22 : decode cX3_fail 22 = .ok (.return_, 1) := by decide +kernel
theorem dX3_size_0 : decode cX3_size 0 = .ok (.aload_n 0, 1) := by decide +kernel
theorem dX3_size_1 : decode cX3_size 1 = .ok (.getfield 18, 3) := by decide +kernel
theorem dX3_size_4 : decode cX3_size 4 = .ok (.iconst (-1), 1) := by decide +kernel
theorem dX3_size_5 : decode cX3_size 5 = .ok (.if_icmp .ne 7, 3) := by decide +kernel
theorem dX3_size_8 : decode cX3_size 8 = .ok (.iconst 0, 1) := by decide +kernel
theorem dX3_size_9 : decode cX3_size 9 = .ok (.goto 9, 3) := by decide +kernel
theorem dX3_size_12 : decode cX3_size 12 = .ok (.aload_n 0, 1) := by decide +kernel
theorem dX3_size_13 : decode cX3_size 13 = .ok (.getfield 21, 3) := by decide +kernel
theorem dX3_size_16 : decode cX3_size 16 = .ok (.iconst 2, 1) := by decide +kernel
theorem dX3_size_17 : decode cX3_size 17 = .ok (.iadd, 1) := by decide +kernel
theorem dX3_size_18 : decode cX3_size 18 = .ok (.ireturn, 1) := by decide +kernel
set_option maxRecDepth 20000 in
theorem ggX3_kindOf_X3_size : GoodIn wsX3_kindOf wsX3_size := goodIn_r _ [7, 2, 1, 8, 9, 10, 11] (by decide +kernel) (by decide +kernel)
set_option maxRecDepth 20000 in
theorem gX3_kindOf_X3_size : GoodIn wsX3_kindOf (wsV RX3 24 RX3 yX3_size wsX3_size) := goodIn_app (goodIn_of _ (by decide +kernel)) ggX3_kindOf_X3_size
theorem dX3_kindOf_0 : decode cX3_kindOf 0 = .ok (.iload_n 1, 1) := by decide +kernel
theorem dX3_kindOf_1 : decode cX3_kindOf 1 = .ok (.ifCond .lt 11, 3) := by decide +kernel
theorem dX3_kindOf_4 : decode cX3_kindOf 4 = .ok (.iload_n 1, 1) := by decide +kernel
theorem dX3_kindOf_5 : decode cX3_kindOf 5 = .ok (.aload_n 0, 1) := by decide +kernel
theorem dX3_kindOf_6 : decode cX3_kindOf 6 = .ok (.invokevirtual 24, 3) := by decide +kernel
theorem dX3_kindOf_9 : decode cX3_kindOf 9 = .ok (.if_icmp .lt 5, 3) := by decide +kernel
theorem dX3_kindOf_12 : decode cX3_kindOf 12 = .ok (.iconst (-1), 1) := by decide +kernel
theorem dX3_kindOf_13 : decode cX3_kindOf 13 = .ok (.ireturn, 1) := by decide +kernel
theorem dX3_kindOf_14 : decode cX3_kindOf 14 = .ok (.iload_n 1, 1) := by decide +kernel
theorem dX3_kindOf_15 : decode cX3_kindOf 15 = .ok (.ifCond .ne 6, 3) := by decide +kernel
theorem dX3_kindOf_18 : decode cX3_kindOf 18 = .ok (.bipush 6, 2) := by decide +kernel
theorem dX3_kindOf_20 : decode cX3_kindOf 20 = .ok (.ireturn, 1) := by decide +kernel
theorem dX3_kindOf_21 : decode cX3_kindOf 21 = .ok (.iload_n 1, 1) := by decide +kernel
theorem dX3_kindOf_22 : decode cX3_kindOf 22 = .ok (.aload_n 0, 1) := by decide +kernel
theorem dX3_kindOf_23 : decode cX3_kindOf 23 = .ok (.getfield 21, 3) := by decide +kernel
theorem dX3_kindOf_26 : decode cX3_kindOf 26 = .ok (.if_icmp .gt 8, 3) := by decide +kernel
theorem dX3_kindOf_29 : decode cX3_kindOf 29 = .ok (.bipush 7, 2) := by decide +kernel
theorem dX3_kindOf_31 : decode cX3_kindOf 31 = .ok (.goto 7, 3) := by decide +kernel
theorem dX3_kindOf_34 : decode cX3_kindOf 34 = .ok (.aload_n 0, 1) := by decide +kernel
theorem dX3_kindOf_35 : decode cX3_kindOf 35 = .ok (.getfield 18, 3) := by decide +kernel
theorem dX3_kindOf_38 : decode cX3_kindOf 38 = .ok (.ireturn, 1) := by decide +kernel
set_option maxRecDepth 20000 in
theorem ggX3_numberOf_X3_kindOf : GoodIn wsX3_numberOf wsX3_kindOf := goodIn_r _ [7, 8, 9, 10, 11, 12, 6, 13, 14, 15, 16, 17] (by decide +kernel) (by decide +kernel)
set_option maxRecDepth 20000 in
theorem gX3_numberOf_X3_kindOf : GoodIn wsX3_numberOf (wsV RX3 28 RX3 yX3_kindOf wsX3_kindOf) := goodIn_app (goodIn_of _ (by decide +kernel)) ggX3_numberOf_X3_kindOf
theorem dX3_numberOf_0 : decode cX3_numberOf 0 = .ok (.aload_n 0, 1) := by decide +kernel
theorem dX3_numberOf_1 : decode cX3_numberOf 1 = .ok (.iload_n 1, 1) := by decide +kernel
theorem dX3_numberOf_2 : decode cX3_numberOf 2 = .ok (.invokevirtual 28, 3) := by decide +kernel
theorem dX3_numberOf_5 : decode cX3_numberOf 5 = .ok (.istore_n 2, 1) := by decide +kernel
theorem dX3_numberOf_6 : decode cX3_numberOf 6 = .ok (.iload_n 2, 1) := by decide +kernel
theorem dX3_numberOf_7 : decode cX3_numberOf 7 = .ok (.bipush 6, 2) := by decide +kernel
theorem dX3_numberOf_9 : decode cX3_numberOf 9 = .ok (.if_icmp .ne 8, 3) := by decide +kernel
theorem dX3_numberOf_12 : decode cX3_numberOf 12 = .ok (.aload_n 0, 1) := by decide +kernel
theorem dX3_numberOf_13 : decode cX3_numberOf 13 = .ok (.getfield 9, 3) := by decide +kernel
theorem dX3_numberOf_16 : decode cX3_numberOf 16 = .ok (.ireturn, 1) := by decide +kernel
theorem dX3_numberOf_17 : decode cX3_numberOf 17 = .ok (.iload_n 2, 1) := by decide +kernel
theorem dX3_numberOf_18 : decode cX3_numberOf 18 = .ok (.bipush 7, 2) := by decide +kernel
theorem dX3_numberOf_20 : decode cX3_numberOf 20 = .ok (.if_icmp .ne 14, 3) := by decide +kernel
theorem dX3_numberOf_23 : decode cX3_numberOf 23 = .ok (.aload_n 0, 1) := by decide +kernel
theorem dX3_numberOf_24 : decode cX3_numberOf 24 = .ok (.getfield 15, 3) := by decide +kernel
theorem dX3_numberOf_27 : decode cX3_numberOf 27 = .ok (.iload_n 1, 1) := by decide +kernel
theorem dX3_numberOf_28 : decode cX3_numberOf 28 = .ok (.iadd, 1) := by decide +kernel
theorem dX3_numberOf_29 : decode cX3_numberOf 29 = .ok (.iconst 1, 1) := by decide +kernel
theorem dX3_numberOf_30 : decode cX3_numberOf 30 = .ok (.isub, 1) := by decide +kernel
theorem dX3_numberOf_31 : decode cX3_numberOf 31 = .ok (.goto 4, 3) := by decide +kernel
theorem dX3_numberOf_34 : decode cX3_numberOf 34 = .ok (.iconst (-1), 1) := by decide +kernel
theorem dX3_numberOf_35 : decode cX3_numberOf 35 = .ok (.ireturn, 1) := by decide +kernel
set_option maxRecDepth 20000 in
theorem ggX4_init_X5_within : GoodIn wsX4_init wsX5_within := goodIn_r _ [12, 13, 14, 15, 16, 17, 18, 19] (by decide +kernel) (by decide +kernel)
set_option maxRecDepth 20000 in
theorem gX4_init_X5_within_n9 : GoodIn wsX4_init (wsX5_within) := ggX4_init_X5_within
theorem dX4_init_0 : decode cX4_init 0 = .ok (.aload_n 0, 1) := by decide +kernel
theorem dX4_init_1 : decode cX4_init 1 = .ok (.invokespecial 3, 3) := by decide +kernel
theorem dX4_init_4 : decode cX4_init 4 = .ok (.aload_n 0, 1) := by decide +kernel
theorem dX4_init_5 : decode cX4_init 5 = .ok (.iload_n 2, 1) := by decide +kernel
theorem dX4_init_6 : decode cX4_init 6 = .ok (.iconst 5, 1) := by decide +kernel
theorem dX4_init_7 : decode cX4_init 7 = .ok (.bipush 40, 2) := by decide +kernel
theorem dX4_init_9 : decode cX4_init 9 = .ok (.invokestatic 9, 3) := by decide +kernel
theorem dX4_init_12 : decode cX4_init 12 = .ok (.putfield 13, 3) := by decide +kernel
theorem dX4_init_15 : decode cX4_init 15 = .ok (.aload_n 0, 1) := by decide +kernel
theorem dX4_init_16 : decode cX4_init 16 = .ok (.iload_n 3, 1) := by decide +kernel
theorem dX4_init_17 : decode cX4_init 17 = .ok (.iconst 1, 1) := by decide +kernel
theorem dX4_init_18 : decode cX4_init 18 = .ok (.bipush 50, 2) := by decide +kernel
theorem dX4_init_20 : decode cX4_init 20 = .ok (.invokestatic 9, 3) := by decide +kernel
theorem dX4_init_23 : decode cX4_init 23 = .ok (.putfield 19, 3) := by decide +kernel
theorem dX4_init_26 : decode cX4_init 26 = .ok (.aload_n 0, 1) := by decide +kernel
theorem dX4_init_27 : decode cX4_init 27 = .ok (.iload_n 1, 1) := by decide +kernel
theorem dX4_init_28 : decode cX4_init 28 = .ok (.iconst 1, 1) := by decide +kernel
theorem dX4_init_29 : decode cX4_init 29 = .ok (.bipush 6, 2) := by decide +kernel
theorem dX4_init_31 : decode cX4_init 31 = .ok (.invokestatic 9, 3) := by decide +kernel
theorem dX4_init_34 : decode cX4_init 34 = .ok (.newarray .int, 2) := by decide +kernel
theorem dX4_init_36 : decode cX4_init 36 = .ok (.putfield 22, 3) := by decide +kernel
theorem dX4_init_39 : decode cX4_init 39 = .ok (.iconst 0, 1) := by decide +kernel
theorem dX4_init_40 : decode cX4_init 40 = .ok (.istore 4, 2) := by decide +kernel
theorem dX4_init_42 : decode cX4_init 42 = .ok (.iload 4, 2) := by decide +kernel
theorem dX4_init_44 : decode cX4_init 44 = .ok (.aload_n 0, 1) := by decide +kernel
theorem dX4_init_45 : decode cX4_init 45 = .ok (.getfield 22, 3) := by decide +kernel
theorem dX4_init_48 : decode cX4_init 48 = .ok (.arraylength, 1) := by decide +kernel
theorem dX4_init_49 : decode cX4_init 49 = .ok (.if_icmp .ge 23, 3) := by decide +kernel
theorem dX4_init_52 : decode cX4_init 52 = .ok (.aload_n 0, 1) := by decide +kernel
theorem dX4_init_53 : decode cX4_init 53 = .ok (.getfield 22, 3) := by decide +kernel
theorem dX4_init_56 : decode cX4_init 56 = .ok (.iload 4, 2) := by decide +kernel
theorem dX4_init_58 : decode cX4_init 58 = .ok (.iload 4, 2) := by decide +kernel
theorem dX4_init_60 : decode cX4_init 60 = .ok (.aload_n 0, 1) := by decide +kernel
theorem dX4_init_61 : decode cX4_init 61 = .ok (.getfield 13, 3) := by decide +kernel
theorem dX4_init_64 : decode cX4_init 64 = .ok (.imul, 1) := by decide +kernel
theorem dX4_init_65 : decode cX4_init 65 = .ok (.iastore, 1) := by decide +kernel
theorem dX4_init_66 : decode cX4_init 66 = .ok (.iinc 4 1, 3) := by decide +kernel
theorem dX4_init_69 : decode cX4_init 69 = .ok (.goto (-27), 3) := by decide +kernel
theorem dX4_init_72 : decode cX4_init 72 = .ok (.aload_n 0, 1) := by decide +kernel
theorem dX4_init_73 : decode cX4_init 73 = .ok (.aload_n 0, 1) := by decide +kernel
theorem dX4_init_74 : decode cX4_init 74 = .ok (.getfield 22, 3) := by decide +kernel
theorem dX4_init_77 : decode cX4_init 77 = .ok (.arraylength, 1) := by decide +kernel
theorem dX4_init_78 : decode cX4_init 78 = .ok (.aload_n 0, 1) := by decide +kernel
theorem dX4_init_79 : decode cX4_init 79 = .ok (.getfield 13, 3) := by decide +kernel
theorem dX4_init_82 : decode cX4_init 82 = .ok (.imul, 1) := by decide +kernel
theorem dX4_init_83 : decode cX4_init 83 = .ok (.bipush 20, 2) := by decide +kernel
theorem dX4_init_85 : decode cX4_init 85 = .ok (.isub, 1) := by decide +kernel
theorem dX4_init_86 : decode cX4_init 86 = .ok (.putfield 26, 3) := by decide +kernel
theorem dX4_init_89 : decode cX4_init 89 = .ok (.aload_n 0, 1) := by decide +kernel
theorem dX4_init_90 : decode cX4_init 90 = .ok (.bipush 20, 2) := by decide +kernel
theorem dX4_init_92 : decode cX4_init 92 = .ok (.aload_n 0, 1) := by decide +kernel
theorem dX4_init_93 : decode cX4_init 93 = .ok (.getfield 19, 3) := by decide +kernel
theorem dX4_init_96 : decode cX4_init 96 = .ok (.imul, 1) := by decide +kernel
theorem dX4_init_97 : decode cX4_init 97 = .ok (.putfield 29, 3) := by decide +kernel
theorem dX4_init_100 : decode cX4_init 100 = .ok (.return_, 1) := by decide +kernel
theorem dX4_copyFrom_0 : decode cX4_copyFrom 0 = .ok (.aload_n 1, 1) := by decide +kernel
theorem dX4_copyFrom_1 : decode cX4_copyFrom 1 = .ok (.getfield 22, 3) := by decide +kernel
theorem dX4_copyFrom_4 : decode cX4_copyFrom 4 = .ok (.iconst 0, 1) := by decide +kernel
theorem dX4_copyFrom_5 : decode cX4_copyFrom 5 = .ok (.aload_n 0, 1) := by decide +kernel
theorem dX4_copyFrom_6 : decode cX4_copyFrom 6 = .ok (.getfield 22, 3) := by decide +kernel
theorem dX4_copyFrom_9 : decode cX4_copyFrom 9 = .ok (.iconst 0, 1) := by decide +kernel
theorem dX4_copyFrom_10 : decode cX4_copyFrom 10 = .ok (.aload_n 1, 1) := by decide +kernel
theorem dX4_copyFrom_11 : decode cX4_copyFrom 11 = .ok (.getfield 22, 3) := by decide +kernel
theorem dX4_copyFrom_14 : decode cX4_copyFrom 14 = .ok (.arraylength, 1) := by decide +kernel
theorem dX4_copyFrom_15 : decode cX4_copyFrom 15 = .ok (.aload_n 0, 1) := by decide +kernel
theorem dX4_copyFrom_16 : decode cX4_copyFrom 16 = .ok (.getfield 22, 3) := by decide +kernel
theorem dX4_copyFrom_19 : decode cX4_copyFrom 19 = .ok (.arraylength, 1) := by decide +kernel
theorem dX4_copyFrom_20 : decode cX4_copyFrom 20 = .ok (.invokestatic 32, 3) := by decide +kernel
theorem dX4_copyFrom_23 : decode cX4_copyFrom 23 = .ok (.invokestatic 38, 3) := by decide +kernel
theorem dX4_copyFrom_26 : decode cX4_copyFrom 26 = .ok (.aload_n 0, 1) := by decide +kernel
theorem dX4_copyFrom_27 : decode cX4_copyFrom 27 = .ok (.aload_n 1, 1) := by decide +kernel
theorem dX4_copyFrom_28 : decode cX4_copyFrom 28 = .ok (.getfield 29, 3) := by decide +kernel
theorem dX4_copyFrom_31 : decode cX4_copyFrom 31 = .ok (.putfield 29, 3) := by decide +kernel
theorem dX4_copyFrom_34 : decode cX4_copyFrom 34 = .ok (.aload_n 0, 1) := by decide +kernel
theorem dX4_copyFrom_35 : decode cX4_copyFrom 35 = .ok (.aload_n 1, 1) := by decide +kernel
theorem dX4_copyFrom_36 : decode cX4_copyFrom 36 = .ok (.getfield 44, 3) := by decide +kernel
theorem dX4_copyFrom_39 : decode cX4_copyFrom 39 = .ok (.putfield 44, 3) := by decide +kernel
theorem dX4_copyFrom_42 : decode cX4_copyFrom 42 = .ok (.aload_n 0, 1) := by decide +kernel
theorem dX4_copyFrom_43 : decode cX4_copyFrom 43 = .ok (.aload_n 1, 1) := by decide +kernel
theorem dX4_copyFrom_44 : decode cX4_copyFrom 44 = .ok (.getfield 47, 3) := by decide +kernel
theorem dX4_copyFrom_47 : decode cX4_copyFrom 47 = .ok (.putfield 47, 3) := by decide +kernel
theorem dX4_copyFrom_50 : decode cX4_copyFrom 50 = .ok (.aload_n 0, 1) := by decide +kernel
theorem dX4_copyFrom_51 : decode cX4_copyFrom 51 = .ok (.aload_n 1, 1) := by decide +kernel
theorem dX4_copyFrom_52 : decode cX4_copyFrom 52 = .ok (.getfield 50, 3) := by decide +kernel
theorem dX4_copyFrom_55 : decode cX4_copyFrom 55 = .ok (.putfield 50, 3) := by decide +kernel
theorem dX4_copyFrom_58 : decode cX4_copyFrom 58 = .ok (.return_, 1) := by decide +kernel
theorem dX4_count_0 : decode cX4_count 0 = .ok (.aload_n 0, 1) := by decide +kernel
theorem dX4_count_1 : decode cX4_count 1 = .ok (.getfield 22, 3) := by decide +kernel
theorem dX4_count_4 : decode cX4_count 4 = .ok (.arraylength, 1) := by decide +kernel
theorem dX4_count_5 : decode cX4_count 5 = .ok (.ireturn, 1) := by decide +kernel
theorem dX4_floorOf_0 : decode cX4_floorOf 0 = .ok (.iload_n 1, 1) := by decide +kernel
theorem dX4_floorOf_1 : decode cX4_floorOf 1 = .ok (.aload_n 0, 1) := by decide +kernel
theorem dX4_floorOf_2 : decode cX4_floorOf 2 = .ok (.getfield 13, 3) := by decide +kernel
theorem dX4_floorOf_5 : decode cX4_floorOf 5 = .ok (.imul, 1) := by decide +kernel
theorem dX4_floorOf_6 : decode cX4_floorOf 6 = .ok (.ireturn, 1) := by decide +kernel
theorem dX4_topOf_0 : decode cX4_topOf 0 = .ok (.iload_n 1, 1) := by decide +kernel
theorem dX4_topOf_1 : decode cX4_topOf 1 = .ok (.iconst 1, 1) := by decide +kernel
theorem dX4_topOf_2 : decode cX4_topOf 2 = .ok (.iadd, 1) := by decide +kernel
theorem dX4_topOf_3 : decode cX4_topOf 3 = .ok (.aload_n 0, 1) := by decide +kernel
theorem dX4_topOf_4 : decode cX4_topOf 4 = .ok (.getfield 13, 3) := by decide +kernel
theorem dX4_topOf_7 : decode cX4_topOf 7 = .ok (.imul, 1) := by decide +kernel
theorem dX4_topOf_8 : decode cX4_topOf 8 = .ok (.ireturn, 1) := by decide +kernel
theorem dX4_fullPound_0 : decode cX4_fullPound 0 = .ok (.bipush 20, 2) := by decide +kernel
theorem dX4_fullPound_2 : decode cX4_fullPound 2 = .ok (.aload_n 0, 1) := by decide +kernel
theorem dX4_fullPound_3 : decode cX4_fullPound 3 = .ok (.getfield 19, 3) := by decide +kernel
theorem dX4_fullPound_6 : decode cX4_fullPound 6 = .ok (.imul, 1) := by decide +kernel
theorem dX4_fullPound_7 : decode cX4_fullPound 7 = .ok (.ireturn, 1) := by decide +kernel
set_option maxRecDepth 20000 in
theorem ggX4_levelAt_J9_floorDiv_7cf53 : GoodIn wsX4_levelAt wsJ9_floorDiv_7cf53 := goodIn_r _ [8] (by decide +kernel) (by decide +kernel)
set_option maxRecDepth 20000 in
theorem gX4_levelAt_J9_floorDiv_7cf53 : GoodIn wsX4_levelAt (va_wsS RX4 53 yJ9_floorDiv_7cf53 wsJ9_floorDiv_7cf53) := goodIn_app (goodIn_of _ (by decide +kernel)) ggX4_levelAt_J9_floorDiv_7cf53
theorem dX4_levelAt_0 : decode cX4_levelAt 0 = .ok (.iload_n 1, 1) := by decide +kernel
theorem dX4_levelAt_1 : decode cX4_levelAt 1 = .ok (.ifCond .ge 5, 3) := by decide +kernel
theorem dX4_levelAt_4 : decode cX4_levelAt 4 = .ok (.iconst 0, 1) := by decide +kernel
theorem dX4_levelAt_5 : decode cX4_levelAt 5 = .ok (.ireturn, 1) := by decide +kernel
theorem dX4_levelAt_6 : decode cX4_levelAt 6 = .ok (.iload_n 1, 1) := by decide +kernel
theorem dX4_levelAt_7 : decode cX4_levelAt 7 = .ok (.aload_n 0, 1) := by decide +kernel
theorem dX4_levelAt_8 : decode cX4_levelAt 8 = .ok (.getfield 22, 3) := by decide +kernel
theorem dX4_levelAt_11 : decode cX4_levelAt 11 = .ok (.arraylength, 1) := by decide +kernel
theorem dX4_levelAt_12 : decode cX4_levelAt 12 = .ok (.if_icmp .ge 10, 3) := by decide +kernel
theorem dX4_levelAt_15 : decode cX4_levelAt 15 = .ok (.aload_n 0, 1) := by decide +kernel
theorem dX4_levelAt_16 : decode cX4_levelAt 16 = .ok (.getfield 22, 3) := by decide +kernel
theorem dX4_levelAt_19 : decode cX4_levelAt 19 = .ok (.iload_n 1, 1) := by decide +kernel
theorem dX4_levelAt_20 : decode cX4_levelAt 20 = .ok (.iaload, 1) := by decide +kernel
theorem dX4_levelAt_21 : decode cX4_levelAt 21 = .ok (.ireturn, 1) := by decide +kernel
theorem dX4_levelAt_22 : decode cX4_levelAt 22 = .ok (.aload_n 0, 1) := by decide +kernel
theorem dX4_levelAt_23 : decode cX4_levelAt 23 = .ok (.getfield 19, 3) := by decide +kernel
theorem dX4_levelAt_26 : decode cX4_levelAt 26 = .ok (.iconst 1, 1) := by decide +kernel
theorem dX4_levelAt_27 : decode cX4_levelAt 27 = .ok (.if_icmp .ge 10, 3) := by decide +kernel
theorem dX4_levelAt_30 : decode cX4_levelAt 30 = .ok (.aload_n 0, 1) := by decide +kernel
theorem dX4_levelAt_31 : decode cX4_levelAt 31 = .ok (.getfield 26, 3) := by decide +kernel
theorem dX4_levelAt_34 : decode cX4_levelAt 34 = .ok (.goto 19, 3) := by decide +kernel
theorem dX4_levelAt_37 : decode cX4_levelAt 37 = .ok (.aload_n 0, 1) := by decide +kernel
theorem dX4_levelAt_38 : decode cX4_levelAt 38 = .ok (.getfield 26, 3) := by decide +kernel
theorem dX4_levelAt_41 : decode cX4_levelAt 41 = .ok (.aload_n 0, 1) := by decide +kernel
theorem dX4_levelAt_42 : decode cX4_levelAt 42 = .ok (.getfield 29, 3) := by decide +kernel
theorem dX4_levelAt_45 : decode cX4_levelAt 45 = .ok (.aload_n 0, 1) := by decide +kernel
theorem dX4_levelAt_46 : decode cX4_levelAt 46 = .ok (.getfield 19, 3) := by decide +kernel
theorem dX4_levelAt_49 : decode cX4_levelAt 49 = .ok (.invokestatic 53, 3) := by decide +kernel
theorem dX4_levelAt_52 : decode cX4_levelAt 52 = .ok (.iadd, 1) := by decide +kernel
theorem dX4_levelAt_53 : decode cX4_levelAt 53 = .ok (.ireturn, 1) := by decide +kernel
set_option maxRecDepth 20000 in
theorem ggX4_depth_X4_levelAt : GoodIn wsX4_depth wsX4_levelAt := goodIn_r _ [7, 1, 8, 2, 9, 10, 11, 12, 13, 14, 15, 16, 17, 18, 19, 20, 21] (by decide +kernel) (by decide +kernel)
set_option maxRecDepth 20000 in
theorem gX4_depth_X4_levelAt : GoodIn wsX4_depth (wsV RX4 56 RX4 yX4_levelAt wsX4_levelAt) := goodIn_app (goodIn_of _ (by decide +kernel)) ggX4_depth_X4_levelAt
theorem dX4_depth_0 : decode cX4_depth 0 = .ok (.aload_n 0, 1) := by decide +kernel
theorem dX4_depth_1 : decode cX4_depth 1 = .ok (.aload_n 0, 1) := by decide +kernel
theorem dX4_depth_2 : decode cX4_depth 2 = .ok (.getfield 22, 3) := by decide +kernel
theorem dX4_depth_5 : decode cX4_depth 5 = .ok (.arraylength, 1) := by decide +kernel
theorem dX4_depth_6 : decode cX4_depth 6 = .ok (.invokevirtual 56, 3) := by decide +kernel
theorem dX4_depth_9 : decode cX4_depth 9 = .ok (.aload_n 0, 1) := by decide +kernel
theorem dX4_depth_10 : decode cX4_depth 10 = .ok (.getfield 26, 3) := by decide +kernel
theorem dX4_depth_13 : decode cX4_depth 13 = .ok (.isub, 1) := by decide +kernel
theorem dX4_depth_14 : decode cX4_depth 14 = .ok (.ireturn, 1) := by decide +kernel
set_option maxRecDepth 20000 in
theorem ggX4_headOver_X4_levelAt : GoodIn wsX4_headOver wsX4_levelAt := goodIn_r _ [5, 6, 7, 8, 9, 10, 11, 12, 13, 14, 15, 16, 17, 18, 19, 20, 21] (by decide +kernel) (by decide +kernel)
set_option maxRecDepth 20000 in
theorem gX4_headOver_X4_levelAt : GoodIn wsX4_headOver (wsV RX4 56 RX4 yX4_levelAt wsX4_levelAt) := goodIn_app (goodIn_of _ (by decide +kernel)) ggX4_headOver_X4_levelAt
theorem dX4_headOver_0 : decode cX4_headOver 0 = .ok (.aload_n 0, 1) := by decide +kernel
theorem dX4_headOver_1 : decode cX4_headOver 1 = .ok (.iload_n 1, 1) := by decide +kernel
theorem dX4_headOver_2 : decode cX4_headOver 2 = .ok (.invokevirtual 56, 3) := by decide +kernel
theorem dX4_headOver_5 : decode cX4_headOver 5 = .ok (.aload_n 0, 1) := by decide +kernel
theorem dX4_headOver_6 : decode cX4_headOver 6 = .ok (.iload_n 1, 1) := by decide +kernel
theorem dX4_headOver_7 : decode cX4_headOver 7 = .ok (.iconst 1, 1) := by decide +kernel
theorem dX4_headOver_8 : decode cX4_headOver 8 = .ok (.isub, 1) := by decide +kernel
theorem dX4_headOver_9 : decode cX4_headOver 9 = .ok (.invokevirtual 56, 3) := by decide +kernel
theorem dX4_headOver_12 : decode cX4_headOver 12 = .ok (.isub, 1) := by decide +kernel
theorem dX4_headOver_13 : decode cX4_headOver 13 = .ok (.ireturn, 1) := by decide +kernel
set_option maxRecDepth 20000 in
theorem ggX4_pour_X4_fullPound : GoodIn wsX4_pour wsX4_fullPound := goodIn_r _ [11, 12, 13, 14, 15, 16, 17, 18, 19, 20] (by decide +kernel) (by decide +kernel)
set_option maxRecDepth 20000 in
theorem gX4_pour_X4_fullPound : GoodIn wsX4_pour (wsV RX4 60 RX4 yX4_fullPound wsX4_fullPound) := goodIn_app (goodIn_of _ (by decide +kernel)) ggX4_pour_X4_fullPound
theorem dX4_pour_0 : decode cX4_pour 0 = .ok (.iconst 0, 1) := by decide +kernel
theorem dX4_pour_1 : decode cX4_pour 1 = .ok (.aload_n 0, 1) := by decide +kernel
theorem dX4_pour_2 : decode cX4_pour 2 = .ok (.getfield 29, 3) := by decide +kernel
theorem dX4_pour_5 : decode cX4_pour 5 = .ok (.iload_n 1, 1) := by decide +kernel
theorem dX4_pour_6 : decode cX4_pour 6 = .ok (.iadd, 1) := by decide +kernel
theorem dX4_pour_7 : decode cX4_pour 7 = .ok (.aload_n 0, 1) := by decide +kernel
theorem dX4_pour_8 : decode cX4_pour 8 = .ok (.invokevirtual 60, 3) := by decide +kernel
theorem dX4_pour_11 : decode cX4_pour 11 = .ok (.isub, 1) := by decide +kernel
theorem dX4_pour_12 : decode cX4_pour 12 = .ok (.invokestatic 64, 3) := by decide +kernel
theorem dX4_pour_15 : decode cX4_pour 15 = .ok (.istore_n 2, 1) := by decide +kernel
theorem dX4_pour_16 : decode cX4_pour 16 = .ok (.aload_n 0, 1) := by decide +kernel
theorem dX4_pour_17 : decode cX4_pour 17 = .ok (.dup, 1) := by decide +kernel
theorem dX4_pour_18 : decode cX4_pour 18 = .ok (.getfield 29, 3) := by decide +kernel
theorem dX4_pour_21 : decode cX4_pour 21 = .ok (.iload_n 1, 1) := by decide +kernel
theorem dX4_pour_22 : decode cX4_pour 22 = .ok (.iload_n 2, 1) := by decide +kernel
theorem dX4_pour_23 : decode cX4_pour 23 = .ok (.isub, 1) := by decide +kernel
theorem dX4_pour_24 : decode cX4_pour 24 = .ok (.iadd, 1) := by decide +kernel
theorem dX4_pour_25 : decode cX4_pour 25 = .ok (.putfield 29, 3) := by decide +kernel
theorem dX4_pour_28 : decode cX4_pour 28 = .ok (.aload_n 0, 1) := by decide +kernel
theorem dX4_pour_29 : decode cX4_pour 29 = .ok (.dup, 1) := by decide +kernel
theorem dX4_pour_30 : decode cX4_pour 30 = .ok (.getfield 47, 3) := by decide +kernel
theorem dX4_pour_33 : decode cX4_pour 33 = .ok (.iload_n 1, 1) := by decide +kernel
theorem dX4_pour_34 : decode cX4_pour 34 = .ok (.iload_n 2, 1) := by decide +kernel
theorem dX4_pour_35 : decode cX4_pour 35 = .ok (.isub, 1) := by decide +kernel
theorem dX4_pour_36 : decode cX4_pour 36 = .ok (.iadd, 1) := by decide +kernel
theorem dX4_pour_37 : decode cX4_pour 37 = .ok (.putfield 47, 3) := by decide +kernel
theorem dX4_pour_40 : decode cX4_pour 40 = .ok (.iload_n 2, 1) := by decide +kernel
theorem dX4_pour_41 : decode cX4_pour 41 = .ok (.ireturn, 1) := by decide +kernel
set_option maxRecDepth 20000 in
theorem ggX4_flow_X4_levelAt : GoodIn wsX4_flow wsX4_levelAt := goodIn_r _ [6, 1, 7, 8, 9, 10, 11, 12, 13, 28, 29, 30, 31, 32, 33, 34, 35] (by decide +kernel) (by decide +kernel)
set_option maxRecDepth 20000 in
theorem gX4_flow_X4_levelAt : GoodIn wsX4_flow (wsV RX4 56 RX4 yX4_levelAt wsX4_levelAt) := goodIn_app (goodIn_of _ (by decide +kernel)) ggX4_flow_X4_levelAt
set_option maxRecDepth 20000 in
theorem ggX4_flow_X4_floorOf : GoodIn wsX4_flow wsX4_floorOf := goodIn_r _ [17, 18, 28, 29, 30, 31, 32, 33, 34, 35] (by decide +kernel) (by decide +kernel)
set_option maxRecDepth 20000 in
theorem gX4_flow_X4_floorOf : GoodIn wsX4_flow (wsV RX4 67 RX4 yX4_floorOf wsX4_floorOf) := goodIn_app (goodIn_of _ (by decide +kernel)) ggX4_flow_X4_floorOf
set_option maxRecDepth 20000 in
theorem ggX4_flow_X4_topOf : GoodIn wsX4_flow wsX4_topOf := goodIn_r _ [22, 18, 28, 29, 30, 31, 32, 33, 34, 35] (by decide +kernel) (by decide +kernel)
set_option maxRecDepth 20000 in
theorem gX4_flow_X4_topOf : GoodIn wsX4_flow (wsV RX4 70 RX4 yX4_topOf wsX4_topOf) := goodIn_app (goodIn_of _ (by decide +kernel)) ggX4_flow_X4_topOf
set_option maxRecDepth 20000 in
theorem ggX4_flow_X4_change : GoodIn wsX4_flow wsX4_change := goodIn_r _ [26, 27, 1, 9, 28, 29, 30, 31, 32, 33, 34, 35] (by decide +kernel) (by decide +kernel)
set_option maxRecDepth 20000 in
theorem gX4_flow_X4_change : GoodIn wsX4_flow (wsV RX4 73 RX4 yX4_change wsX4_change) := goodIn_app (goodIn_of _ (by decide +kernel)) ggX4_flow_X4_change
theorem dX4_flow_0 : decode cX4_flow 0 = .ok (.iconst 0, 1) := by decide +kernel
theorem dX4_flow_1 : decode cX4_flow 1 = .ok (.istore_n 3, 1) := by decide +kernel
theorem dX4_flow_2 : decode cX4_flow 2 = .ok (.iload_n 3, 1) := by decide +kernel
theorem dX4_flow_3 : decode cX4_flow 3 = .ok (.iload_n 2, 1) := by decide +kernel
theorem dX4_flow_4 : decode cX4_flow 4 = .ok (.if_icmp .ge 103, 3) := by decide +kernel
theorem dX4_flow_7 : decode cX4_flow 7 = .ok (.iload_n 1, 1) := by decide +kernel
theorem dX4_flow_8 : decode cX4_flow 8 = .ok (.aload_n 0, 1) := by decide +kernel
theorem dX4_flow_9 : decode cX4_flow 9 = .ok (.getfield 22, 3) := by decide +kernel
theorem dX4_flow_12 : decode cX4_flow 12 = .ok (.arraylength, 1) := by decide +kernel
theorem dX4_flow_13 : decode cX4_flow 13 = .ok (.if_icmp .ge 45, 3) := by decide +kernel
theorem dX4_flow_16 : decode cX4_flow 16 = .ok (.aload_n 0, 1) := by decide +kernel
theorem dX4_flow_17 : decode cX4_flow 17 = .ok (.iload_n 1, 1) := by decide +kernel
theorem dX4_flow_18 : decode cX4_flow 18 = .ok (.invokevirtual 56, 3) := by decide +kernel
theorem dX4_flow_21 : decode cX4_flow 21 = .ok (.aload_n 0, 1) := by decide +kernel
theorem dX4_flow_22 : decode cX4_flow 22 = .ok (.iload_n 1, 1) := by decide +kernel
theorem dX4_flow_23 : decode cX4_flow 23 = .ok (.invokevirtual 67, 3) := by decide +kernel
theorem dX4_flow_26 : decode cX4_flow 26 = .ok (.if_icmp .le 28, 3) := by decide +kernel
theorem dX4_flow_29 : decode cX4_flow 29 = .ok (.iload_n 1, 1) := by decide +kernel
theorem dX4_flow_30 : decode cX4_flow 30 = .ok (.ifCond .eq 20, 3) := by decide +kernel
theorem dX4_flow_33 : decode cX4_flow 33 = .ok (.aload_n 0, 1) := by decide +kernel
theorem dX4_flow_34 : decode cX4_flow 34 = .ok (.iload_n 1, 1) := by decide +kernel
theorem dX4_flow_35 : decode cX4_flow 35 = .ok (.iconst 1, 1) := by decide +kernel
theorem dX4_flow_36 : decode cX4_flow 36 = .ok (.isub, 1) := by decide +kernel
theorem dX4_flow_37 : decode cX4_flow 37 = .ok (.invokevirtual 56, 3) := by decide +kernel
theorem dX4_flow_40 : decode cX4_flow 40 = .ok (.aload_n 0, 1) := by decide +kernel
theorem dX4_flow_41 : decode cX4_flow 41 = .ok (.iload_n 1, 1) := by decide +kernel
theorem dX4_flow_42 : decode cX4_flow 42 = .ok (.iconst 1, 1) := by decide +kernel
theorem dX4_flow_43 : decode cX4_flow 43 = .ok (.isub, 1) := by decide +kernel
theorem dX4_flow_44 : decode cX4_flow 44 = .ok (.invokevirtual 70, 3) := by decide +kernel
theorem dX4_flow_47 : decode cX4_flow 47 = .ok (.if_icmp .ge 7, 3) := by decide +kernel
theorem dX4_flow_50 : decode cX4_flow 50 = .ok (.iconst 1, 1) := by decide +kernel
theorem dX4_flow_51 : decode cX4_flow 51 = .ok (.goto 27, 3) := by decide +kernel
theorem dX4_flow_54 : decode cX4_flow 54 = .ok (.iconst 0, 1) := by decide +kernel
theorem dX4_flow_55 : decode cX4_flow 55 = .ok (.goto 23, 3) := by decide +kernel
theorem dX4_flow_58 : decode cX4_flow 58 = .ok (.aload_n 0, 1) := by decide +kernel
theorem dX4_flow_59 : decode cX4_flow 59 = .ok (.iload_n 1, 1) := by decide +kernel
theorem dX4_flow_60 : decode cX4_flow 60 = .ok (.invokevirtual 56, 3) := by decide +kernel
theorem dX4_flow_63 : decode cX4_flow 63 = .ok (.aload_n 0, 1) := by decide +kernel
theorem dX4_flow_64 : decode cX4_flow 64 = .ok (.iload_n 1, 1) := by decide +kernel
theorem dX4_flow_65 : decode cX4_flow 65 = .ok (.iconst 1, 1) := by decide +kernel
theorem dX4_flow_66 : decode cX4_flow 66 = .ok (.isub, 1) := by decide +kernel
theorem dX4_flow_67 : decode cX4_flow 67 = .ok (.invokevirtual 56, 3) := by decide +kernel
theorem dX4_flow_70 : decode cX4_flow 70 = .ok (.if_icmp .le 7, 3) := by decide +kernel
theorem dX4_flow_73 : decode cX4_flow 73 = .ok (.iconst 1, 1) := by decide +kernel
theorem dX4_flow_74 : decode cX4_flow 74 = .ok (.goto 4, 3) := by decide +kernel
theorem dX4_flow_77 : decode cX4_flow 77 = .ok (.iconst 0, 1) := by decide +kernel
theorem dX4_flow_78 : decode cX4_flow 78 = .ok (.istore 4, 2) := by decide +kernel
theorem dX4_flow_80 : decode cX4_flow 80 = .ok (.iload 4, 2) := by decide +kernel
theorem dX4_flow_82 : decode cX4_flow 82 = .ok (.ifCond .ne 5, 3) := by decide +kernel
theorem dX4_flow_85 : decode cX4_flow 85 = .ok (.iload_n 3, 1) := by decide +kernel
theorem dX4_flow_86 : decode cX4_flow 86 = .ok (.ireturn, 1) := by decide +kernel
theorem dX4_flow_87 : decode cX4_flow 87 = .ok (.aload_n 0, 1) := by decide +kernel
theorem dX4_flow_88 : decode cX4_flow 88 = .ok (.iload_n 1, 1) := by decide +kernel
theorem dX4_flow_89 : decode cX4_flow 89 = .ok (.iconst (-1), 1) := by decide +kernel
theorem dX4_flow_90 : decode cX4_flow 90 = .ok (.invokevirtual 73, 3) := by decide +kernel
theorem dX4_flow_93 : decode cX4_flow 93 = .ok (.aload_n 0, 1) := by decide +kernel
theorem dX4_flow_94 : decode cX4_flow 94 = .ok (.iload_n 1, 1) := by decide +kernel
theorem dX4_flow_95 : decode cX4_flow 95 = .ok (.iconst 1, 1) := by decide +kernel
theorem dX4_flow_96 : decode cX4_flow 96 = .ok (.isub, 1) := by decide +kernel
theorem dX4_flow_97 : decode cX4_flow 97 = .ok (.iconst 1, 1) := by decide +kernel
theorem dX4_flow_98 : decode cX4_flow 98 = .ok (.invokevirtual 73, 3) := by decide +kernel
theorem dX4_flow_101 : decode cX4_flow 101 = .ok (.iinc 3 1, 3) := by decide +kernel
theorem dX4_flow_104 : decode cX4_flow 104 = .ok (.goto (-102), 3) := by decide +kernel
theorem dX4_flow_107 : decode cX4_flow 107 = .ok (.iload_n 2, 1) := by decide +kernel
theorem dX4_flow_108 : decode cX4_flow 108 = .ok (.ireturn, 1) := by decide +kernel
theorem dX4_change_0 : decode cX4_change 0 = .ok (.iload_n 1, 1) := by decide +kernel
theorem dX4_change_1 : decode cX4_change 1 = .ok (.ifCond .ge 16, 3) := by decide +kernel
theorem dX4_change_4 : decode cX4_change 4 = .ok (.aload_n 0, 1) := by decide +kernel
theorem dX4_change_5 : decode cX4_change 5 = .ok (.dup, 1) := by decide +kernel
theorem dX4_change_6 : decode cX4_change 6 = .ok (.getfield 44, 3) := by decide +kernel
theorem dX4_change_9 : decode cX4_change 9 = .ok (.iload_n 2, 1) := by decide +kernel
theorem dX4_change_10 : decode cX4_change 10 = .ok (.iadd, 1) := by decide +kernel
theorem dX4_change_11 : decode cX4_change 11 = .ok (.putfield 44, 3) := by decide +kernel
theorem dX4_change_14 : decode cX4_change 14 = .ok (.goto 35, 3) := by decide +kernel
theorem dX4_change_17 : decode cX4_change 17 = .ok (.iload_n 1, 1) := by decide +kernel
theorem dX4_change_18 : decode cX4_change 18 = .ok (.aload_n 0, 1) := by decide +kernel
theorem dX4_change_19 : decode cX4_change 19 = .ok (.getfield 22, 3) := by decide +kernel
theorem dX4_change_22 : decode cX4_change 22 = .ok (.arraylength, 1) := by decide +kernel
theorem dX4_change_23 : decode cX4_change 23 = .ok (.if_icmp .ge 16, 3) := by decide +kernel
theorem dX4_change_26 : decode cX4_change 26 = .ok (.aload_n 0, 1) := by decide +kernel
theorem dX4_change_27 : decode cX4_change 27 = .ok (.getfield 22, 3) := by decide +kernel
theorem dX4_change_30 : decode cX4_change 30 = .ok (.iload_n 1, 1) := by decide +kernel
theorem dX4_change_31 : decode cX4_change 31 = .ok (.dup2, 1) := by decide +kernel
theorem dX4_change_32 : decode cX4_change 32 = .ok (.iaload, 1) := by decide +kernel
theorem dX4_change_33 : decode cX4_change 33 = .ok (.iload_n 2, 1) := by decide +kernel
theorem dX4_change_34 : decode cX4_change 34 = .ok (.iadd, 1) := by decide +kernel
theorem dX4_change_35 : decode cX4_change 35 = .ok (.iastore, 1) := by decide +kernel
theorem dX4_change_36 : decode cX4_change 36 = .ok (.goto 13, 3) := by decide +kernel
theorem dX4_change_39 : decode cX4_change 39 = .ok (.aload_n 0, 1) := by decide +kernel
theorem dX4_change_40 : decode cX4_change 40 = .ok (.dup, 1) := by decide +kernel
theorem dX4_change_41 : decode cX4_change 41 = .ok (.getfield 29, 3) := by decide +kernel
theorem dX4_change_44 : decode cX4_change 44 = .ok (.iload_n 2, 1) := by decide +kernel
theorem dX4_change_45 : decode cX4_change 45 = .ok (.iadd, 1) := by decide +kernel
theorem dX4_change_46 : decode cX4_change 46 = .ok (.putfield 29, 3) := by decide +kernel
theorem dX4_change_49 : decode cX4_change 49 = .ok (.return_, 1) := by decide +kernel
set_option maxRecDepth 20000 in
theorem ggX4_runSluice_X4_flow : GoodIn wsX4_runSluice wsX4_flow := goodIn_r _ [10, 11, 12, 13, 14, 9, 15, 16, 17, 18, 19, 20, 21, 22, 23, 24, 25, 26, 27, 28, 29, 30, 31, 32, 33, 34, 35, 36, 37, 38, 39, 40, 41, 42, 43, 44] (by decide +kernel) (by decide +kernel)
set_option maxRecDepth 20000 in
theorem gX4_runSluice_X4_flow : GoodIn wsX4_runSluice (wsV RX4 77 RX4 yX4_flow wsX4_flow) := goodIn_app (goodIn_of _ (by decide +kernel)) ggX4_runSluice_X4_flow
theorem dX4_runSluice_0 : decode cX4_runSluice 0 = .ok (.iload_n 2, 1) := by decide +kernel
theorem dX4_runSluice_1 : decode cX4_runSluice 1 = .ok (.istore_n 3, 1) := by decide +kernel
theorem dX4_runSluice_2 : decode cX4_runSluice 2 = .ok (.iconst 0, 1) := by decide +kernel
theorem dX4_runSluice_3 : decode cX4_runSluice 3 = .ok (.istore 4, 2) := by decide +kernel
theorem dX4_runSluice_5 : decode cX4_runSluice 5 = .ok (.iconst 0, 1) := by decide +kernel
theorem dX4_runSluice_6 : decode cX4_runSluice 6 = .ok (.istore 5, 2) := by decide +kernel
theorem dX4_runSluice_8 : decode cX4_runSluice 8 = .ok (.iload 5, 2) := by decide +kernel
theorem dX4_runSluice_10 : decode cX4_runSluice 10 = .ok (.iload_n 2, 1) := by decide +kernel
theorem dX4_runSluice_11 : decode cX4_runSluice 11 = .ok (.if_icmp .ge 64, 3) := by decide +kernel
theorem dX4_runSluice_14 : decode cX4_runSluice 14 = .ok (.iload_n 3, 1) := by decide +kernel
theorem dX4_runSluice_15 : decode cX4_runSluice 15 = .ok (.ifCond .le 60, 3) := by decide +kernel
theorem dX4_runSluice_18 : decode cX4_runSluice 18 = .ok (.iload 4, 2) := by decide +kernel
theorem dX4_runSluice_20 : decode cX4_runSluice 20 = .ok (.ifCond .ne 55, 3) := by decide +kernel
theorem dX4_runSluice_23 : decode cX4_runSluice 23 = .ok (.iload_n 3, 1) := by decide +kernel
theorem dX4_runSluice_24 : decode cX4_runSluice 24 = .ok (.bipush 20, 2) := by decide +kernel
theorem dX4_runSluice_26 : decode cX4_runSluice 26 = .ok (.invokestatic 32, 3) := by decide +kernel
theorem dX4_runSluice_29 : decode cX4_runSluice 29 = .ok (.istore 6, 2) := by decide +kernel
theorem dX4_runSluice_31 : decode cX4_runSluice 31 = .ok (.aload_n 0, 1) := by decide +kernel
theorem dX4_runSluice_32 : decode cX4_runSluice 32 = .ok (.iload_n 1, 1) := by decide +kernel
theorem dX4_runSluice_33 : decode cX4_runSluice 33 = .ok (.iload 6, 2) := by decide +kernel
theorem dX4_runSluice_35 : decode cX4_runSluice 35 = .ok (.invokevirtual 77, 3) := by decide +kernel
theorem dX4_runSluice_38 : decode cX4_runSluice 38 = .ok (.istore 7, 2) := by decide +kernel
theorem dX4_runSluice_40 : decode cX4_runSluice 40 = .ok (.iload_n 3, 1) := by decide +kernel
theorem dX4_runSluice_41 : decode cX4_runSluice 41 = .ok (.iload 7, 2) := by decide +kernel
theorem dX4_runSluice_43 : decode cX4_runSluice 43 = .ok (.isub, 1) := by decide +kernel
theorem dX4_runSluice_44 : decode cX4_runSluice 44 = .ok (.istore_n 3, 1) := by decide +kernel
theorem dX4_runSluice_45 : decode cX4_runSluice 45 = .ok (.iload 7, 2) := by decide +kernel
theorem dX4_runSluice_47 : decode cX4_runSluice 47 = .ok (.iload 6, 2) := by decide +kernel
theorem dX4_runSluice_49 : decode cX4_runSluice 49 = .ok (.if_icmp .ge 7, 3) := by decide +kernel
theorem dX4_runSluice_52 : decode cX4_runSluice 52 = .ok (.iconst 1, 1) := by decide +kernel
theorem dX4_runSluice_53 : decode cX4_runSluice 53 = .ok (.goto 4, 3) := by decide +kernel
theorem dX4_runSluice_56 : decode cX4_runSluice 56 = .ok (.iconst 0, 1) := by decide +kernel
theorem dX4_runSluice_57 : decode cX4_runSluice 57 = .ok (.istore 4, 2) := by decide +kernel
theorem dX4_runSluice_59 : decode cX4_runSluice 59 = .ok (.aload_n 0, 1) := by decide +kernel
theorem dX4_runSluice_60 : decode cX4_runSluice 60 = .ok (.dup, 1) := by decide +kernel
theorem dX4_runSluice_61 : decode cX4_runSluice 61 = .ok (.getfield 50, 3) := by decide +kernel
theorem dX4_runSluice_64 : decode cX4_runSluice 64 = .ok (.iconst 1, 1) := by decide +kernel
theorem dX4_runSluice_65 : decode cX4_runSluice 65 = .ok (.iadd, 1) := by decide +kernel
theorem dX4_runSluice_66 : decode cX4_runSluice 66 = .ok (.putfield 50, 3) := by decide +kernel
theorem dX4_runSluice_69 : decode cX4_runSluice 69 = .ok (.iinc 5 1, 3) := by decide +kernel
theorem dX4_runSluice_72 : decode cX4_runSluice 72 = .ok (.goto (-64), 3) := by decide +kernel
theorem dX4_runSluice_75 : decode cX4_runSluice 75 = .ok (.return_, 1) := by decide +kernel
set_option maxRecDepth 20000 in
theorem ggX4_levelLowerGate_X4_floorOf : GoodIn wsX4_levelLowerGate wsX4_floorOf := goodIn_r _ [5, 6, 48, 49, 50, 51, 52, 53, 54, 55] (by decide +kernel) (by decide +kernel)
set_option maxRecDepth 20000 in
theorem gX4_levelLowerGate_X4_floorOf : GoodIn wsX4_levelLowerGate (wsV RX4 67 RX4 yX4_floorOf wsX4_floorOf) := goodIn_app (goodIn_of _ (by decide +kernel)) ggX4_levelLowerGate_X4_floorOf
set_option maxRecDepth 20000 in
theorem ggX4_levelLowerGate_X4_lower : GoodIn wsX4_levelLowerGate wsX4_lower := goodIn_r _ [9, 10, 11, 12, 13, 14, 4, 15, 16, 17, 18, 19, 20, 21, 22, 23, 24, 25, 26, 6, 1, 2, 3, 5, 7, 8, 27, 28, 29, 30, 31, 32, 33, 34, 35, 36, 37, 38, 39, 40, 41, 42, 43, 44, 48, 49, 50, 51, 52, 53, 54, 55] (by decide +kernel) (by decide +kernel)
set_option maxRecDepth 20000 in
theorem gX4_levelLowerGate_X4_lower : GoodIn wsX4_levelLowerGate (va_wsS RX4 80 yX4_lower wsX4_lower) := goodIn_app (goodIn_of _ (by decide +kernel)) ggX4_levelLowerGate_X4_lower
set_option maxRecDepth 20000 in
theorem ggX4_levelLowerGate_X4_topOf : GoodIn wsX4_levelLowerGate wsX4_topOf := goodIn_r _ [26, 6, 48, 49, 50, 51, 52, 53, 54, 55] (by decide +kernel) (by decide +kernel)
set_option maxRecDepth 20000 in
theorem gX4_levelLowerGate_X4_topOf : GoodIn wsX4_levelLowerGate (wsV RX4 70 RX4 yX4_topOf wsX4_topOf) := goodIn_app (goodIn_of _ (by decide +kernel)) ggX4_levelLowerGate_X4_topOf
set_option maxRecDepth 20000 in
theorem ggX4_levelLowerGate_X4_raise : GoodIn wsX4_levelLowerGate wsX4_raise := goodIn_r _ [47, 10, 12, 13, 14, 4, 15, 16, 17, 18, 19, 20, 21, 22, 1, 2, 3, 5, 6, 45, 46, 27, 28, 29, 30, 31, 32, 33, 34, 35, 36, 37, 38, 39, 23, 24, 25, 26, 40, 41, 42, 43, 44, 48, 49, 50, 51, 52, 53, 54, 55] (by decide +kernel) (by decide +kernel)
set_option maxRecDepth 20000 in
theorem gX4_levelLowerGate_X4_raise : GoodIn wsX4_levelLowerGate (va_wsS RX4 84 yX4_raise wsX4_raise) := goodIn_app (goodIn_of _ (by decide +kernel)) ggX4_levelLowerGate_X4_raise
theorem dX4_levelLowerGate_0 : decode cX4_levelLowerGate 0 = .ok (.aload_n 0, 1) := by decide +kernel
theorem dX4_levelLowerGate_1 : decode cX4_levelLowerGate 1 = .ok (.iload_n 1, 1) := by decide +kernel
theorem dX4_levelLowerGate_2 : decode cX4_levelLowerGate 2 = .ok (.aload_n 0, 1) := by decide +kernel
theorem dX4_levelLowerGate_3 : decode cX4_levelLowerGate 3 = .ok (.iload_n 1, 1) := by decide +kernel
theorem dX4_levelLowerGate_4 : decode cX4_levelLowerGate 4 = .ok (.invokevirtual 67, 3) := by decide +kernel
theorem dX4_levelLowerGate_7 : decode cX4_levelLowerGate 7 = .ok (.invokestatic 80, 3) := by decide +kernel
theorem dX4_levelLowerGate_10 : decode cX4_levelLowerGate 10 = .ok (.iload_n 1, 1) := by decide +kernel
theorem dX4_levelLowerGate_11 : decode cX4_levelLowerGate 11 = .ok (.ifCond .eq 20, 3) := by decide +kernel
theorem dX4_levelLowerGate_14 : decode cX4_levelLowerGate 14 = .ok (.aload_n 0, 1) := by decide +kernel
theorem dX4_levelLowerGate_15 : decode cX4_levelLowerGate 15 = .ok (.iload_n 1, 1) := by decide +kernel
theorem dX4_levelLowerGate_16 : decode cX4_levelLowerGate 16 = .ok (.iconst 1, 1) := by decide +kernel
theorem dX4_levelLowerGate_17 : decode cX4_levelLowerGate 17 = .ok (.isub, 1) := by decide +kernel
theorem dX4_levelLowerGate_18 : decode cX4_levelLowerGate 18 = .ok (.aload_n 0, 1) := by decide +kernel
theorem dX4_levelLowerGate_19 : decode cX4_levelLowerGate 19 = .ok (.iload_n 1, 1) := by decide +kernel
theorem dX4_levelLowerGate_20 : decode cX4_levelLowerGate 20 = .ok (.iconst 1, 1) := by decide +kernel
theorem dX4_levelLowerGate_21 : decode cX4_levelLowerGate 21 = .ok (.isub, 1) := by decide +kernel
theorem dX4_levelLowerGate_22 : decode cX4_levelLowerGate 22 = .ok (.invokevirtual 70, 3) := by decide +kernel
theorem dX4_levelLowerGate_25 : decode cX4_levelLowerGate 25 = .ok (.invokestatic 84, 3) := by decide +kernel
theorem dX4_levelLowerGate_28 : decode cX4_levelLowerGate 28 = .ok (.ifCond .eq 7, 3) := by decide +kernel
theorem dX4_levelLowerGate_31 : decode cX4_levelLowerGate 31 = .ok (.iconst 1, 1) := by decide +kernel
theorem dX4_levelLowerGate_32 : decode cX4_levelLowerGate 32 = .ok (.goto 4, 3) := by decide +kernel
theorem dX4_levelLowerGate_35 : decode cX4_levelLowerGate 35 = .ok (.iconst 0, 1) := by decide +kernel
theorem dX4_levelLowerGate_36 : decode cX4_levelLowerGate 36 = .ok (.ireturn, 1) := by decide +kernel
set_option maxRecDepth 20000 in
theorem ggX4_levelHighestGate_X4_headOver : GoodIn wsX4_levelHighestGate wsX4_headOver := goodIn_r _ [8, 9, 10, 11, 7, 12, 1, 13, 14, 15, 16, 17, 18, 19, 49, 50, 51, 52, 53, 54, 55, 56] (by decide +kernel) (by decide +kernel)
set_option maxRecDepth 20000 in
theorem gX4_levelHighestGate_X4_headOver : GoodIn wsX4_levelHighestGate (wsV RX4 89 RX4 yX4_headOver wsX4_headOver) := goodIn_app (goodIn_of _ (by decide +kernel)) ggX4_levelHighestGate_X4_headOver
set_option maxRecDepth 20000 in
theorem ggX4_levelHighestGate_X4_levelAt : GoodIn wsX4_levelHighestGate wsX4_levelAt := goodIn_r _ [12, 1, 13, 14, 15, 16, 17, 18, 19, 49, 50, 51, 52, 53, 54, 55, 56] (by decide +kernel) (by decide +kernel)
set_option maxRecDepth 20000 in
theorem gX4_levelHighestGate_X4_levelAt : GoodIn wsX4_levelHighestGate (wsV RX4 56 RX4 yX4_levelAt wsX4_levelAt) := goodIn_app (goodIn_of _ (by decide +kernel)) ggX4_levelHighestGate_X4_levelAt
set_option maxRecDepth 20000 in
theorem ggX4_levelHighestGate_X4_floorOf : GoodIn wsX4_levelHighestGate wsX4_floorOf := goodIn_r _ [23, 24, 49, 50, 51, 52, 53, 54, 55, 56] (by decide +kernel) (by decide +kernel)
set_option maxRecDepth 20000 in
theorem gX4_levelHighestGate_X4_floorOf : GoodIn wsX4_levelHighestGate (wsV RX4 67 RX4 yX4_floorOf wsX4_floorOf) := goodIn_app (goodIn_of _ (by decide +kernel)) ggX4_levelHighestGate_X4_floorOf
set_option maxRecDepth 20000 in
theorem ggX4_levelHighestGate_X4_flow : GoodIn wsX4_levelHighestGate wsX4_flow := goodIn_r _ [28, 1, 9, 10, 11, 7, 12, 13, 14, 15, 16, 17, 18, 19, 20, 21, 22, 23, 24, 29, 30, 31, 32, 33, 34, 35, 36, 37, 49, 50, 51, 52, 53, 54, 55, 56] (by decide +kernel) (by decide +kernel)
set_option maxRecDepth 20000 in
theorem gX4_levelHighestGate_X4_flow : GoodIn wsX4_levelHighestGate (wsV RX4 77 RX4 yX4_flow wsX4_flow) := goodIn_app (goodIn_of _ (by decide +kernel)) ggX4_levelHighestGate_X4_flow
set_option maxRecDepth 20000 in
theorem ggX4_levelHighestGate_X4_lower : GoodIn wsX4_levelHighestGate wsX4_lower := goodIn_r _ [40, 1, 2, 9, 10, 11, 7, 12, 13, 14, 15, 16, 17, 18, 19, 29, 30, 31, 32, 24, 20, 21, 22, 23, 38, 39, 41, 42, 43, 44, 45, 46, 47, 48, 3, 25, 26, 27, 28, 33, 34, 35, 36, 37, 49, 50, 51, 52, 53, 54, 55, 56] (by decide +kernel) (by decide +kernel)
set_option maxRecDepth 20000 in
theorem gX4_levelHighestGate_X4_lower : GoodIn wsX4_levelHighestGate (va_wsS RX4 80 yX4_lower wsX4_lower) := goodIn_app (goodIn_of _ (by decide +kernel)) ggX4_levelHighestGate_X4_lower
theorem dX4_levelHighestGate_0 : decode cX4_levelHighestGate 0 = .ok (.aload_n 0, 1) := by decide +kernel
theorem dX4_levelHighestGate_1 : decode cX4_levelHighestGate 1 = .ok (.getfield 22, 3) := by decide +kernel
theorem dX4_levelHighestGate_4 : decode cX4_levelHighestGate 4 = .ok (.arraylength, 1) := by decide +kernel
theorem dX4_levelHighestGate_5 : decode cX4_levelHighestGate 5 = .ok (.istore_n 1, 1) := by decide +kernel
theorem dX4_levelHighestGate_6 : decode cX4_levelHighestGate 6 = .ok (.iconst 0, 1) := by decide +kernel
theorem dX4_levelHighestGate_7 : decode cX4_levelHighestGate 7 = .ok (.istore_n 2, 1) := by decide +kernel
theorem dX4_levelHighestGate_8 : decode cX4_levelHighestGate 8 = .ok (.iload_n 2, 1) := by decide +kernel
theorem dX4_levelHighestGate_9 : decode cX4_levelHighestGate 9 = .ok (.ldc 88, 2) := by decide +kernel
theorem dX4_levelHighestGate_11 : decode cX4_levelHighestGate 11 = .ok (.if_icmp .ge 75, 3) := by decide +kernel
theorem dX4_levelHighestGate_14 : decode cX4_levelHighestGate 14 = .ok (.aload_n 0, 1) := by decide +kernel
theorem dX4_levelHighestGate_15 : decode cX4_levelHighestGate 15 = .ok (.iload_n 1, 1) := by decide +kernel
theorem dX4_levelHighestGate_16 : decode cX4_levelHighestGate 16 = .ok (.invokevirtual 89, 3) := by decide +kernel
theorem dX4_levelHighestGate_19 : decode cX4_levelHighestGate 19 = .ok (.ifCond .eq 67, 3) := by decide +kernel
theorem dX4_levelHighestGate_22 : decode cX4_levelHighestGate 22 = .ok (.aload_n 0, 1) := by decide +kernel
theorem dX4_levelHighestGate_23 : decode cX4_levelHighestGate 23 = .ok (.iload_n 1, 1) := by decide +kernel
theorem dX4_levelHighestGate_24 : decode cX4_levelHighestGate 24 = .ok (.invokevirtual 56, 3) := by decide +kernel
theorem dX4_levelHighestGate_27 : decode cX4_levelHighestGate 27 = .ok (.aload_n 0, 1) := by decide +kernel
theorem dX4_levelHighestGate_28 : decode cX4_levelHighestGate 28 = .ok (.iload_n 1, 1) := by decide +kernel
theorem dX4_levelHighestGate_29 : decode cX4_levelHighestGate 29 = .ok (.iconst 1, 1) := by decide +kernel
theorem dX4_levelHighestGate_30 : decode cX4_levelHighestGate 30 = .ok (.isub, 1) := by decide +kernel
theorem dX4_levelHighestGate_31 : decode cX4_levelHighestGate 31 = .ok (.invokevirtual 67, 3) := by decide +kernel
theorem dX4_levelHighestGate_34 : decode cX4_levelHighestGate 34 = .ok (.if_icmp .ge 5, 3) := by decide +kernel
theorem dX4_levelHighestGate_37 : decode cX4_levelHighestGate 37 = .ok (.iconst 0, 1) := by decide +kernel
theorem dX4_levelHighestGate_38 : decode cX4_levelHighestGate 38 = .ok (.ireturn, 1) := by decide +kernel
theorem dX4_levelHighestGate_39 : decode cX4_levelHighestGate 39 = .ok (.aload_n 0, 1) := by decide +kernel
theorem dX4_levelHighestGate_40 : decode cX4_levelHighestGate 40 = .ok (.iload_n 1, 1) := by decide +kernel
theorem dX4_levelHighestGate_41 : decode cX4_levelHighestGate 41 = .ok (.invokevirtual 89, 3) := by decide +kernel
theorem dX4_levelHighestGate_44 : decode cX4_levelHighestGate 44 = .ok (.ifCond .le 24, 3) := by decide +kernel
theorem dX4_levelHighestGate_47 : decode cX4_levelHighestGate 47 = .ok (.aload_n 0, 1) := by decide +kernel
theorem dX4_levelHighestGate_48 : decode cX4_levelHighestGate 48 = .ok (.iload_n 1, 1) := by decide +kernel
theorem dX4_levelHighestGate_49 : decode cX4_levelHighestGate 49 = .ok (.bipush 20, 2) := by decide +kernel
theorem dX4_levelHighestGate_51 : decode cX4_levelHighestGate 51 = .ok (.invokevirtual 77, 3) := by decide +kernel
theorem dX4_levelHighestGate_54 : decode cX4_levelHighestGate 54 = .ok (.pop, 1) := by decide +kernel
theorem dX4_levelHighestGate_55 : decode cX4_levelHighestGate 55 = .ok (.aload_n 0, 1) := by decide +kernel
theorem dX4_levelHighestGate_56 : decode cX4_levelHighestGate 56 = .ok (.dup, 1) := by decide +kernel
theorem dX4_levelHighestGate_57 : decode cX4_levelHighestGate 57 = .ok (.getfield 50, 3) := by decide +kernel
theorem dX4_levelHighestGate_60 : decode cX4_levelHighestGate 60 = .ok (.iconst 1, 1) := by decide +kernel
theorem dX4_levelHighestGate_61 : decode cX4_levelHighestGate 61 = .ok (.iadd, 1) := by decide +kernel
theorem dX4_levelHighestGate_62 : decode cX4_levelHighestGate 62 = .ok (.putfield 50, 3) := by decide +kernel
theorem dX4_levelHighestGate_65 : decode cX4_levelHighestGate 65 = .ok (.goto 15, 3) := by decide +kernel
theorem dX4_levelHighestGate_68 : decode cX4_levelHighestGate 68 = .ok (.aload_n 0, 1) := by decide +kernel
theorem dX4_levelHighestGate_69 : decode cX4_levelHighestGate 69 = .ok (.iload_n 1, 1) := by decide +kernel
theorem dX4_levelHighestGate_70 : decode cX4_levelHighestGate 70 = .ok (.iconst 1, 1) := by decide +kernel
theorem dX4_levelHighestGate_71 : decode cX4_levelHighestGate 71 = .ok (.isub, 1) := by decide +kernel
theorem dX4_levelHighestGate_72 : decode cX4_levelHighestGate 72 = .ok (.aload_n 0, 1) := by decide +kernel
theorem dX4_levelHighestGate_73 : decode cX4_levelHighestGate 73 = .ok (.iload_n 1, 1) := by decide +kernel
theorem dX4_levelHighestGate_74 : decode cX4_levelHighestGate 74 = .ok (.invokevirtual 56, 3) := by decide +kernel
theorem dX4_levelHighestGate_77 : decode cX4_levelHighestGate 77 = .ok (.invokestatic 80, 3) := by decide +kernel
theorem dX4_levelHighestGate_80 : decode cX4_levelHighestGate 80 = .ok (.iinc 2 1, 3) := by decide +kernel
theorem dX4_levelHighestGate_83 : decode cX4_levelHighestGate 83 = .ok (.goto (-75), 3) := by decide +kernel
theorem dX4_levelHighestGate_86 : decode cX4_levelHighestGate 86 = .ok (.aload_n 0, 1) := by decide +kernel
theorem dX4_levelHighestGate_87 : decode cX4_levelHighestGate 87 = .ok (.iload_n 1, 1) := by decide +kernel
theorem dX4_levelHighestGate_88 : decode cX4_levelHighestGate 88 = .ok (.invokevirtual 89, 3) := by decide +kernel
theorem dX4_levelHighestGate_91 : decode cX4_levelHighestGate 91 = .ok (.ifCond .ne 7, 3) := by decide +kernel
theorem dX4_levelHighestGate_94 : decode cX4_levelHighestGate 94 = .ok (.iconst 1, 1) := by decide +kernel
theorem dX4_levelHighestGate_95 : decode cX4_levelHighestGate 95 = .ok (.goto 4, 3) := by decide +kernel
theorem dX4_levelHighestGate_98 : decode cX4_levelHighestGate 98 = .ok (.iconst 0, 1) := by decide +kernel
theorem dX4_levelHighestGate_99 : decode cX4_levelHighestGate 99 = .ok (.ireturn, 1) := by decide +kernel
set_option maxRecDepth 20000 in
theorem ggX4_lower_X4_levelAt : GoodIn wsX4_lower wsX4_levelAt := goodIn_r _ [7, 1, 8, 9, 10, 11, 12, 13, 14, 44, 45, 46, 47, 48, 49, 50, 51] (by decide +kernel) (by decide +kernel)
set_option maxRecDepth 20000 in
theorem gX4_lower_X4_levelAt : GoodIn wsX4_lower (wsV RX4 56 RX4 yX4_levelAt wsX4_levelAt) := goodIn_app (goodIn_of _ (by decide +kernel)) ggX4_lower_X4_levelAt
set_option maxRecDepth 20000 in
theorem ggX4_lower_X4_topOf : GoodIn wsX4_lower wsX4_topOf := goodIn_r _ [18, 19, 44, 45, 46, 47, 48, 49, 50, 51] (by decide +kernel) (by decide +kernel)
set_option maxRecDepth 20000 in
theorem gX4_lower_X4_topOf : GoodIn wsX4_lower (wsV RX4 70 RX4 yX4_topOf wsX4_topOf) := goodIn_app (goodIn_of _ (by decide +kernel)) ggX4_lower_X4_topOf
set_option maxRecDepth 20000 in
theorem ggX4_lower_X4_floorOf : GoodIn wsX4_lower wsX4_floorOf := goodIn_r _ [23, 19, 44, 45, 46, 47, 48, 49, 50, 51] (by decide +kernel) (by decide +kernel)
set_option maxRecDepth 20000 in
theorem gX4_lower_X4_floorOf : GoodIn wsX4_lower (wsV RX4 67 RX4 yX4_floorOf wsX4_floorOf) := goodIn_app (goodIn_of _ (by decide +kernel)) ggX4_lower_X4_floorOf
set_option maxRecDepth 20000 in
theorem ggX4_lower_X4_lower : GoodIn wsX4_lower wsX4_lower := goodIn_r _ [0, 1, 2, 3, 4, 5, 6, 7, 8, 9, 10, 11, 12, 13, 14, 15, 16, 17, 18, 19, 20, 21, 22, 23, 24, 25, 26, 27, 28, 29, 30, 31, 32, 33, 34, 35, 36, 37, 38, 39, 40, 41, 42, 43, 44, 45, 46, 47, 48, 49, 50, 51] (by decide +kernel) (by decide +kernel)
set_option maxRecDepth 20000 in
theorem gX4_lower_X4_lower : GoodIn wsX4_lower (va_wsS RX4 80 yX4_lower wsX4_lower) := goodIn_app (goodIn_of _ (by decide +kernel)) ggX4_lower_X4_lower
set_option maxRecDepth 20000 in
theorem ggX4_lower_X4_runSluice : GoodIn wsX4_lower wsX4_runSluice := goodIn_r _ [29, 30, 31, 32, 33, 34, 35, 36, 37, 6, 38, 1, 3, 4, 5, 7, 8, 9, 10, 11, 12, 13, 14, 20, 21, 22, 23, 19, 15, 16, 17, 18, 39, 40, 41, 42, 43, 44, 45, 46, 47, 48, 49, 50, 51] (by decide +kernel) (by decide +kernel)
set_option maxRecDepth 20000 in
theorem gX4_lower_X4_runSluice : GoodIn wsX4_lower (wsV RX4 92 RX4 yX4_runSluice wsX4_runSluice) := goodIn_app (goodIn_of _ (by decide +kernel)) ggX4_lower_X4_runSluice
theorem dX4_lower_0 : decode cX4_lower 0 = .ok (.aload_n 0, 1) := by decide +kernel
theorem dX4_lower_1 : decode cX4_lower 1 = .ok (.ifnull 16, 3) := by decide +kernel
theorem dX4_lower_4 : decode cX4_lower 4 = .ok (.iload_n 1, 1) := by decide +kernel
theorem dX4_lower_5 : decode cX4_lower 5 = .ok (.ifCond .lt 12, 3) := by decide +kernel
theorem dX4_lower_8 : decode cX4_lower 8 = .ok (.iload_n 1, 1) := by decide +kernel
theorem dX4_lower_9 : decode cX4_lower 9 = .ok (.aload_n 0, 1) := by decide +kernel
theorem dX4_lower_10 : decode cX4_lower 10 = .ok (.getfield 22, 3) := by decide +kernel
theorem dX4_lower_13 : decode cX4_lower 13 = .ok (.arraylength, 1) := by decide +kernel
theorem dX4_lower_14 : decode cX4_lower 14 = .ok (.if_icmp .lt 4, 3) := by decide +kernel
theorem dX4_lower_17 : decode cX4_lower 17 = .ok (.return_, 1) := by decide +kernel
theorem dX4_lower_18 : decode cX4_lower 18 = .ok (.iconst 0, 1) := by decide +kernel
theorem dX4_lower_19 : decode cX4_lower 19 = .ok (.istore_n 3, 1) := by decide +kernel
theorem dX4_lower_20 : decode cX4_lower 20 = .ok (.iload_n 3, 1) := by decide +kernel
theorem dX4_lower_21 : decode cX4_lower 21 = .ok (.ldc 88, 2) := by decide +kernel
theorem dX4_lower_23 : decode cX4_lower 23 = .ok (.if_icmp .ge 65, 3) := by decide +kernel
theorem dX4_lower_26 : decode cX4_lower 26 = .ok (.aload_n 0, 1) := by decide +kernel
theorem dX4_lower_27 : decode cX4_lower 27 = .ok (.iload_n 1, 1) := by decide +kernel
