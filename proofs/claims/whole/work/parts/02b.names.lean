set_option maxRecDepth 20000 in
theorem ggX5_init_X2_init : GoodIn wsX5_init wsX2_init := goodIn_r _ [26, 27, 2, 3, 28, 29, 30, 31, 32, 33, 34, 35, 36, 37, 38, 39, 40, 6, 41, 42, 43, 79, 80, 81, 82, 83, 84, 85, 86, 87] (by decide +kernel) (by decide +kernel)
set_option maxRecDepth 20000 in
theorem gX5_init_X2_init : GoodIn wsX5_init (wsX2_init) := ggX5_init_X2_init
set_option maxRecDepth 20000 in
theorem ggX5_init_X1_init : GoodIn wsX5_init wsX1_init := goodIn_r _ [45, 46, 2, 3, 47, 48, 49, 28, 50, 93, 94, 95, 96] (by decide +kernel) (by decide +kernel)
set_option maxRecDepth 20000 in
theorem gX5_init_X1_init_n18 : GoodIn wsX5_init (wsX1_init) := ggX5_init_X1_init
set_option maxRecDepth 20000 in
theorem ggX5_init_X4_init : GoodIn wsX5_init wsX4_init := goodIn_r _ [53, 54, 2, 3, 55, 28, 56, 57, 58, 59, 14, 60, 61, 62, 97, 98, 99] (by decide +kernel) (by decide +kernel)
set_option maxRecDepth 20000 in
theorem gX5_init_X4_init : GoodIn wsX5_init (wsX4_init) := ggX5_init_X4_init
set_option maxRecDepth 20000 in
theorem ggX5_init_X3_init : GoodIn wsX5_init wsX3_init := goodIn_r _ [65, 66, 2, 3, 67, 28, 68, 69, 70, 71, 72, 18, 73, 74, 100, 101, 102] (by decide +kernel) (by decide +kernel)
set_option maxRecDepth 20000 in
theorem gX5_init_X3_init : GoodIn wsX5_init (wsX3_init) := ggX5_init_X3_init
set_option maxRecDepth 20000 in
theorem ggX5_init_X0_init : GoodIn wsX5_init wsX0_init := goodIn_r _ [76, 77, 2, 3, 28, 78, 103, 104] (by decide +kernel) (by decide +kernel)
set_option maxRecDepth 20000 in
theorem gX5_init_X0_init_n39 : GoodIn wsX5_init (wsX0_init) := ggX5_init_X0_init
theorem dX5_init_0 : decode cX5_init 0 = .ok (.aload_n 0, 1) := by decide +kernel
theorem dX5_init_1 : decode cX5_init 1 = .ok (.invokespecial 1, 3) := by decide +kernel
theorem dX5_init_4 : decode cX5_init 4 = .ok (.aload_n 0, 1) := by decide +kernel
theorem dX5_init_5 : decode cX5_init 5 = .ok (.new 7, 3) := by decide +kernel
theorem dX5_init_8 : decode cX5_init 8 = .ok (.dup, 1) := by decide +kernel
theorem dX5_init_9 : decode cX5_init 9 = .ok (.invokespecial 9, 3) := by decide +kernel
theorem dX5_init_12 : decode cX5_init 12 = .ok (.putfield 10, 3) := by decide +kernel
theorem dX5_init_15 : decode cX5_init 15 = .ok (.aload_n 0, 1) := by decide +kernel
theorem dX5_init_16 : decode cX5_init 16 = .ok (.new 16, 3) := by decide +kernel
theorem dX5_init_19 : decode cX5_init 19 = .ok (.dup, 1) := by decide +kernel
theorem dX5_init_20 : decode cX5_init 20 = .ok (.invokespecial 18, 3) := by decide +kernel
theorem dX5_init_23 : decode cX5_init 23 = .ok (.putfield 19, 3) := by decide +kernel
theorem dX5_init_26 : decode cX5_init 26 = .ok (.aload_n 0, 1) := by decide +kernel
theorem dX5_init_27 : decode cX5_init 27 = .ok (.new 23, 3) := by decide +kernel
theorem dX5_init_30 : decode cX5_init 30 = .ok (.dup, 1) := by decide +kernel
theorem dX5_init_31 : decode cX5_init 31 = .ok (.invokespecial 25, 3) := by decide +kernel
theorem dX5_init_34 : decode cX5_init 34 = .ok (.putfield 26, 3) := by decide +kernel
theorem dX5_init_37 : decode cX5_init 37 = .ok (.aload_n 0, 1) := by decide +kernel
theorem dX5_init_38 : decode cX5_init 38 = .ok (.new 30, 3) := by decide +kernel
theorem dX5_init_41 : decode cX5_init 41 = .ok (.dup, 1) := by decide +kernel
theorem dX5_init_42 : decode cX5_init 42 = .ok (.invokespecial 32, 3) := by decide +kernel
theorem dX5_init_45 : decode cX5_init 45 = .ok (.putfield 33, 3) := by decide +kernel
theorem dX5_init_48 : decode cX5_init 48 = .ok (.aload_n 0, 1) := by decide +kernel
theorem dX5_init_49 : decode cX5_init 49 = .ok (.new 37, 3) := by decide +kernel
theorem dX5_init_52 : decode cX5_init 52 = .ok (.dup, 1) := by decide +kernel
theorem dX5_init_53 : decode cX5_init 53 = .ok (.invokespecial 39, 3) := by decide +kernel
theorem dX5_init_56 : decode cX5_init 56 = .ok (.putfield 40, 3) := by decide +kernel
theorem dX5_init_59 : decode cX5_init 59 = .ok (.return_, 1) := by decide +kernel
set_option maxRecDepth 20000 in
theorem ggX5_net_X5_isOutside : GoodIn wsX5_net wsX5_isOutside := goodIn_r _ [6] (by decide +kernel) (by decide +kernel)
set_option maxRecDepth 20000 in
theorem gX5_net_X5_isOutside : GoodIn wsX5_net (va_wsS RX5 44 yX5_isOutside wsX5_isOutside) := goodIn_app (goodIn_of _ (by decide +kernel)) ggX5_net_X5_isOutside
set_option maxRecDepth 20000 in
theorem ggX5_net_X2_startAnew : GoodIn wsX5_net wsX2_startAnew := goodIn_r _ [11, 12, 13, 14, 15, 16, 17, 18, 19, 20, 21, 27, 28, 29, 30, 31, 32, 33, 34, 35] (by decide +kernel) (by decide +kernel)
set_option maxRecDepth 20000 in
theorem gX5_net_X2_startAnew : GoodIn wsX5_net (wsV RX5 48 RX2 yX2_startAnew wsX2_startAnew) := goodIn_app (goodIn_of _ (by decide +kernel)) ggX5_net_X2_startAnew
theorem dX5_net_0 : decode cX5_net 0 = .ok (.iload_n 1, 1) := by decide +kernel
theorem dX5_net_1 : decode cX5_net 1 = .ok (.iconst 1, 1) := by decide +kernel
theorem dX5_net_2 : decode cX5_net 2 = .ok (.iconst 5, 1) := by decide +kernel
theorem dX5_net_3 : decode cX5_net 3 = .ok (.invokestatic 44, 3) := by decide +kernel
theorem dX5_net_6 : decode cX5_net 6 = .ok (.ifCond .eq 6, 3) := by decide +kernel
theorem dX5_net_9 : decode cX5_net 9 = .ok (.bipush (-102), 2) := by decide +kernel
theorem dX5_net_11 : decode cX5_net 11 = .ok (.ireturn, 1) := by decide +kernel
theorem dX5_net_12 : decode cX5_net 12 = .ok (.aload_n 0, 1) := by decide +kernel
theorem dX5_net_13 : decode cX5_net 13 = .ok (.getfield 10, 3) := by decide +kernel
theorem dX5_net_16 : decode cX5_net 16 = .ok (.iconst 1, 1) := by decide +kernel
theorem dX5_net_17 : decode cX5_net 17 = .ok (.iload_n 1, 1) := by decide +kernel
theorem dX5_net_18 : decode cX5_net 18 = .ok (.ishl, 1) := by decide +kernel
theorem dX5_net_19 : decode cX5_net 19 = .ok (.invokevirtual 48, 3) := by decide +kernel
theorem dX5_net_22 : decode cX5_net 22 = .ok (.aload_n 0, 1) := by decide +kernel
theorem dX5_net_23 : decode cX5_net 23 = .ok (.getfield 10, 3) := by decide +kernel
theorem dX5_net_26 : decode cX5_net 26 = .ok (.getfield 52, 3) := by decide +kernel
theorem dX5_net_29 : decode cX5_net 29 = .ok (.ireturn, 1) := by decide +kernel
set_option maxRecDepth 20000 in
theorem ggX5_near_X2_has : GoodIn wsX5_near wsX2_has := goodIn_r _ [7, 8, 33, 34, 35, 36, 37, 38, 39, 40, 41] (by decide +kernel) (by decide +kernel)
set_option maxRecDepth 20000 in
theorem gX5_near_X2_has : GoodIn wsX5_near (wsV RX5 56 RX2 yX2_has wsX2_has) := goodIn_app (goodIn_of _ (by decide +kernel)) ggX5_near_X2_has
set_option maxRecDepth 20000 in
theorem ggX5_near_X5_isOutside : GoodIn wsX5_near wsX5_isOutside := goodIn_r _ [12] (by decide +kernel) (by decide +kernel)
set_option maxRecDepth 20000 in
theorem gX5_near_X5_isOutside : GoodIn wsX5_near (va_wsS RX5 44 yX5_isOutside wsX5_isOutside) := goodIn_app (goodIn_of _ (by decide +kernel)) ggX5_near_X5_isOutside
set_option maxRecDepth 20000 in
theorem ggX5_near_X2_setNear : GoodIn wsX5_near wsX2_setNear := goodIn_r _ [16, 17, 8, 18, 19, 11, 20, 21, 22, 23, 24, 25, 26, 27, 33, 34, 35, 36, 37, 38, 39, 40, 41] (by decide +kernel) (by decide +kernel)
set_option maxRecDepth 20000 in
theorem gX5_near_X2_setNear : GoodIn wsX5_near (wsV RX5 64 RX2 yX2_setNear wsX2_setNear) := goodIn_app (goodIn_of _ (by decide +kernel)) ggX5_near_X2_setNear
theorem dX5_near_0 : decode cX5_near 0 = .ok (.aload_n 0, 1) := by decide +kernel
theorem dX5_near_1 : decode cX5_near 1 = .ok (.getfield 10, 3) := by decide +kernel
theorem dX5_near_4 : decode cX5_near 4 = .ok (.iload_n 1, 1) := by decide +kernel
theorem dX5_near_5 : decode cX5_near 5 = .ok (.invokevirtual 56, 3) := by decide +kernel
theorem dX5_near_8 : decode cX5_near 8 = .ok (.ifCond .ne 7, 3) := by decide +kernel
theorem dX5_near_11 : decode cX5_near 11 = .ok (.sipush (-10101), 3) := by decide +kernel
theorem dX5_near_14 : decode cX5_near 14 = .ok (.ireturn, 1) := by decide +kernel
theorem dX5_near_15 : decode cX5_near 15 = .ok (.iload_n 2, 1) := by decide +kernel
theorem dX5_near_16 : decode cX5_near 16 = .ok (.sipush (-1000), 3) := by decide +kernel
theorem dX5_near_19 : decode cX5_near 19 = .ok (.sipush 1000, 3) := by decide +kernel
theorem dX5_near_22 : decode cX5_near 22 = .ok (.invokestatic 44, 3) := by decide +kernel
theorem dX5_near_25 : decode cX5_near 25 = .ok (.ifCond .eq 7, 3) := by decide +kernel
theorem dX5_near_28 : decode cX5_near 28 = .ok (.sipush (-10102), 3) := by decide +kernel
theorem dX5_near_31 : decode cX5_near 31 = .ok (.ireturn, 1) := by decide +kernel
theorem dX5_near_32 : decode cX5_near 32 = .ok (.aload_n 0, 1) := by decide +kernel
theorem dX5_near_33 : decode cX5_near 33 = .ok (.getfield 10, 3) := by decide +kernel
theorem dX5_near_36 : decode cX5_near 36 = .ok (.getfield 60, 3) := by decide +kernel
theorem dX5_near_39 : decode cX5_near 39 = .ok (.iload_n 1, 1) := by decide +kernel
theorem dX5_near_40 : decode cX5_near 40 = .ok (.iaload, 1) := by decide +kernel
theorem dX5_near_41 : decode cX5_near 41 = .ok (.istore_n 3, 1) := by decide +kernel
theorem dX5_near_42 : decode cX5_near 42 = .ok (.aload_n 0, 1) := by decide +kernel
theorem dX5_near_43 : decode cX5_near 43 = .ok (.getfield 10, 3) := by decide +kernel
theorem dX5_near_46 : decode cX5_near 46 = .ok (.iload_n 1, 1) := by decide +kernel
theorem dX5_near_47 : decode cX5_near 47 = .ok (.iload_n 2, 1) := by decide +kernel
theorem dX5_near_48 : decode cX5_near 48 = .ok (.invokevirtual 64, 3) := by decide +kernel
theorem dX5_near_51 : decode cX5_near 51 = .ok (.iload_n 3, 1) := by decide +kernel
theorem dX5_near_52 : decode cX5_near 52 = .ok (.ireturn, 1) := by decide +kernel
set_option maxRecDepth 20000 in
theorem ggX5_far_X2_has : GoodIn wsX5_far wsX2_has := goodIn_r _ [8, 9, 15, 16, 17, 18, 19, 20, 21, 22, 23] (by decide +kernel) (by decide +kernel)
set_option maxRecDepth 20000 in
theorem gX5_far_X2_has : GoodIn wsX5_far (wsV RX5 56 RX2 yX2_has wsX2_has) := goodIn_app (goodIn_of _ (by decide +kernel)) ggX5_far_X2_has
theorem dX5_far_0 : decode cX5_far 0 = .ok (.aload_n 0, 1) := by decide +kernel
theorem dX5_far_1 : decode cX5_far 1 = .ok (.getfield 10, 3) := by decide +kernel
theorem dX5_far_4 : decode cX5_far 4 = .ok (.iload_n 1, 1) := by decide +kernel
theorem dX5_far_5 : decode cX5_far 5 = .ok (.invokevirtual 56, 3) := by decide +kernel
theorem dX5_far_8 : decode cX5_far 8 = .ok (.ifCond .eq 15, 3) := by decide +kernel
theorem dX5_far_11 : decode cX5_far 11 = .ok (.aload_n 0, 1) := by decide +kernel
theorem dX5_far_12 : decode cX5_far 12 = .ok (.getfield 10, 3) := by decide +kernel
theorem dX5_far_15 : decode cX5_far 15 = .ok (.getfield 68, 3) := by decide +kernel
theorem dX5_far_18 : decode cX5_far 18 = .ok (.iload_n 1, 1) := by decide +kernel
theorem dX5_far_19 : decode cX5_far 19 = .ok (.iaload, 1) := by decide +kernel
theorem dX5_far_20 : decode cX5_far 20 = .ok (.goto 5, 3) := by decide +kernel
theorem dX5_far_23 : decode cX5_far 23 = .ok (.ldc 71, 2) := by decide +kernel
theorem dX5_far_25 : decode cX5_far 25 = .ok (.ireturn, 1) := by decide +kernel
set_option maxRecDepth 20000 in
theorem ggX5_back_X2_takeBack : GoodIn wsX5_back wsX2_takeBack := goodIn_r _ [6, 7, 8, 9, 10, 5, 11, 12, 13, 14, 15, 16, 17, 18, 19, 20, 21, 22, 23, 24, 25, 26, 27, 28, 29, 30, 31, 32, 33, 34, 35, 36, 42, 43, 44, 45, 46, 47, 48, 49, 50] (by decide +kernel) (by decide +kernel)
set_option maxRecDepth 20000 in
theorem gX5_back_X2_takeBack : GoodIn wsX5_back (wsV RX5 72 RX2 yX2_takeBack wsX2_takeBack) := goodIn_app (goodIn_of _ (by decide +kernel)) ggX5_back_X2_takeBack
theorem dX5_back_0 : decode cX5_back 0 = .ok (.aload_n 0, 1) := by decide +kernel
theorem dX5_back_1 : decode cX5_back 1 = .ok (.getfield 10, 3) := by decide +kernel
theorem dX5_back_4 : decode cX5_back 4 = .ok (.invokevirtual 72, 3) := by decide +kernel
theorem dX5_back_7 : decode cX5_back 7 = .ok (.ifCond .eq 7, 3) := by decide +kernel
theorem dX5_back_10 : decode cX5_back 10 = .ok (.iconst 1, 1) := by decide +kernel
theorem dX5_back_11 : decode cX5_back 11 = .ok (.goto 4, 3) := by decide +kernel
theorem dX5_back_14 : decode cX5_back 14 = .ok (.iconst 0, 1) := by decide +kernel
theorem dX5_back_15 : decode cX5_back 15 = .ok (.ireturn, 1) := by decide +kernel
set_option maxRecDepth 20000 in
theorem ggX5_tell_X2_has : GoodIn wsX5_tell wsX2_has := goodIn_r _ [11, 12, 22, 23, 24, 25, 26, 27, 28, 29, 30] (by decide +kernel) (by decide +kernel)
set_option maxRecDepth 20000 in
theorem gX5_tell_X2_has : GoodIn wsX5_tell (wsV RX5 56 RX2 yX2_has wsX2_has) := goodIn_app (goodIn_of _ (by decide +kernel)) ggX5_tell_X2_has
set_option maxRecDepth 20000 in
theorem ggX5_tell_X5_isOutside : GoodIn wsX5_tell wsX5_isOutside := goodIn_r _ [16] (by decide +kernel) (by decide +kernel)
set_option maxRecDepth 20000 in
theorem gX5_tell_X5_isOutside : GoodIn wsX5_tell (va_wsS RX5 44 yX5_isOutside wsX5_isOutside) := goodIn_app (goodIn_of _ (by decide +kernel)) ggX5_tell_X5_isOutside
theorem dX5_tell_0 : decode cX5_tell 0 = .ok (.aload_n 0, 1) := by decide +kernel
theorem dX5_tell_1 : decode cX5_tell 1 = .ok (.getfield 10, 3) := by decide +kernel
theorem dX5_tell_4 : decode cX5_tell 4 = .ok (.iload_n 1, 1) := by decide +kernel
theorem dX5_tell_5 : decode cX5_tell 5 = .ok (.invokevirtual 56, 3) := by decide +kernel
theorem dX5_tell_8 : decode cX5_tell 8 = .ok (.ifCond .ne 6, 3) := by decide +kernel
theorem dX5_tell_11 : decode cX5_tell 11 = .ok (.ldc 76, 2) := by decide +kernel
theorem dX5_tell_13 : decode cX5_tell 13 = .ok (.ireturn, 1) := by decide +kernel
theorem dX5_tell_14 : decode cX5_tell 14 = .ok (.iload_n 2, 1) := by decide +kernel
theorem dX5_tell_15 : decode cX5_tell 15 = .ok (.ldc 77, 2) := by decide +kernel
theorem dX5_tell_17 : decode cX5_tell 17 = .ok (.ldc 78, 2) := by decide +kernel
theorem dX5_tell_19 : decode cX5_tell 19 = .ok (.invokestatic 44, 3) := by decide +kernel
theorem dX5_tell_22 : decode cX5_tell 22 = .ok (.ifCond .eq 6, 3) := by decide +kernel
theorem dX5_tell_25 : decode cX5_tell 25 = .ok (.ldc 79, 2) := by decide +kernel
theorem dX5_tell_27 : decode cX5_tell 27 = .ok (.ireturn, 1) := by decide +kernel
theorem dX5_tell_28 : decode cX5_tell 28 = .ok (.aload_n 0, 1) := by decide +kernel
theorem dX5_tell_29 : decode cX5_tell 29 = .ok (.getfield 10, 3) := by decide +kernel
theorem dX5_tell_32 : decode cX5_tell 32 = .ok (.getfield 80, 3) := by decide +kernel
theorem dX5_tell_35 : decode cX5_tell 35 = .ok (.iload_n 1, 1) := by decide +kernel
theorem dX5_tell_36 : decode cX5_tell 36 = .ok (.iaload, 1) := by decide +kernel
theorem dX5_tell_37 : decode cX5_tell 37 = .ok (.istore_n 3, 1) := by decide +kernel
theorem dX5_tell_38 : decode cX5_tell 38 = .ok (.aload_n 0, 1) := by decide +kernel
theorem dX5_tell_39 : decode cX5_tell 39 = .ok (.getfield 10, 3) := by decide +kernel
theorem dX5_tell_42 : decode cX5_tell 42 = .ok (.getfield 80, 3) := by decide +kernel
theorem dX5_tell_45 : decode cX5_tell 45 = .ok (.iload_n 1, 1) := by decide +kernel
theorem dX5_tell_46 : decode cX5_tell 46 = .ok (.iload_n 2, 1) := by decide +kernel
theorem dX5_tell_47 : decode cX5_tell 47 = .ok (.iastore, 1) := by decide +kernel
theorem dX5_tell_48 : decode cX5_tell 48 = .ok (.iload_n 3, 1) := by decide +kernel
theorem dX5_tell_49 : decode cX5_tell 49 = .ok (.ireturn, 1) := by decide +kernel
set_option maxRecDepth 20000 in
theorem ggX5_probe_X2_has : GoodIn wsX5_probe wsX2_has := goodIn_r _ [7, 8, 18, 19, 20, 21, 22, 23, 24, 25, 26] (by decide +kernel) (by decide +kernel)
set_option maxRecDepth 20000 in
theorem gX5_probe_X2_has : GoodIn wsX5_probe (wsV RX5 56 RX2 yX2_has wsX2_has) := goodIn_app (goodIn_of _ (by decide +kernel)) ggX5_probe_X2_has
set_option maxRecDepth 20000 in
theorem ggX5_probe_X5_isOutside : GoodIn wsX5_probe wsX5_isOutside := goodIn_r _ [12] (by decide +kernel) (by decide +kernel)
set_option maxRecDepth 20000 in
theorem gX5_probe_X5_isOutside : GoodIn wsX5_probe (va_wsS RX5 44 yX5_isOutside wsX5_isOutside) := goodIn_app (goodIn_of _ (by decide +kernel)) ggX5_probe_X5_isOutside
theorem dX5_probe_0 : decode cX5_probe 0 = .ok (.aload_n 0, 1) := by decide +kernel
theorem dX5_probe_1 : decode cX5_probe 1 = .ok (.getfield 10, 3) := by decide +kernel
theorem dX5_probe_4 : decode cX5_probe 4 = .ok (.iload_n 1, 1) := by decide +kernel
theorem dX5_probe_5 : decode cX5_probe 5 = .ok (.invokevirtual 56, 3) := by decide +kernel
theorem dX5_probe_8 : decode cX5_probe 8 = .ok (.ifCond .ne 6, 3) := by decide +kernel
theorem dX5_probe_11 : decode cX5_probe 11 = .ok (.bipush (-101), 2) := by decide +kernel
theorem dX5_probe_13 : decode cX5_probe 13 = .ok (.ireturn, 1) := by decide +kernel
theorem dX5_probe_14 : decode cX5_probe 14 = .ok (.iload_n 2, 1) := by decide +kernel
theorem dX5_probe_15 : decode cX5_probe 15 = .ok (.ifCond .eq 14, 3) := by decide +kernel
theorem dX5_probe_18 : decode cX5_probe 18 = .ok (.iload_n 2, 1) := by decide +kernel
theorem dX5_probe_19 : decode cX5_probe 19 = .ok (.bipush (-9), 2) := by decide +kernel
theorem dX5_probe_21 : decode cX5_probe 21 = .ok (.bipush 9, 2) := by decide +kernel
theorem dX5_probe_23 : decode cX5_probe 23 = .ok (.invokestatic 44, 3) := by decide +kernel
theorem dX5_probe_26 : decode cX5_probe 26 = .ok (.ifCond .eq 6, 3) := by decide +kernel
theorem dX5_probe_29 : decode cX5_probe 29 = .ok (.bipush (-102), 2) := by decide +kernel
theorem dX5_probe_31 : decode cX5_probe 31 = .ok (.ireturn, 1) := by decide +kernel
theorem dX5_probe_32 : decode cX5_probe 32 = .ok (.aload_n 0, 1) := by decide +kernel
theorem dX5_probe_33 : decode cX5_probe 33 = .ok (.getfield 10, 3) := by decide +kernel
theorem dX5_probe_36 : decode cX5_probe 36 = .ok (.getfield 83, 3) := by decide +kernel
theorem dX5_probe_39 : decode cX5_probe 39 = .ok (.iload_n 1, 1) := by decide +kernel
theorem dX5_probe_40 : decode cX5_probe 40 = .ok (.iaload, 1) := by decide +kernel
theorem dX5_probe_41 : decode cX5_probe 41 = .ok (.istore_n 3, 1) := by decide +kernel
theorem dX5_probe_42 : decode cX5_probe 42 = .ok (.aload_n 0, 1) := by decide +kernel
theorem dX5_probe_43 : decode cX5_probe 43 = .ok (.getfield 10, 3) := by decide +kernel
theorem dX5_probe_46 : decode cX5_probe 46 = .ok (.getfield 83, 3) := by decide +kernel
theorem dX5_probe_49 : decode cX5_probe 49 = .ok (.iload_n 1, 1) := by decide +kernel
theorem dX5_probe_50 : decode cX5_probe 50 = .ok (.iload_n 2, 1) := by decide +kernel
theorem dX5_probe_51 : decode cX5_probe 51 = .ok (.iastore, 1) := by decide +kernel
theorem dX5_probe_52 : decode cX5_probe 52 = .ok (.iload_n 3, 1) := by decide +kernel
theorem dX5_probe_53 : decode cX5_probe 53 = .ok (.ireturn, 1) := by decide +kernel
set_option maxRecDepth 20000 in
theorem ggX5_seen_X2_has : GoodIn wsX5_seen wsX2_has := goodIn_r _ [9, 10, 16, 17, 18, 19, 20, 21, 22, 23, 24] (by decide +kernel) (by decide +kernel)
set_option maxRecDepth 20000 in
theorem gX5_seen_X2_has : GoodIn wsX5_seen (wsV RX5 56 RX2 yX2_has wsX2_has) := goodIn_app (goodIn_of _ (by decide +kernel)) ggX5_seen_X2_has
theorem dX5_seen_0 : decode cX5_seen 0 = .ok (.aload_n 0, 1) := by decide +kernel
theorem dX5_seen_1 : decode cX5_seen 1 = .ok (.getfield 10, 3) := by decide +kernel
theorem dX5_seen_4 : decode cX5_seen 4 = .ok (.iload_n 1, 1) := by decide +kernel
theorem dX5_seen_5 : decode cX5_seen 5 = .ok (.invokevirtual 56, 3) := by decide +kernel
theorem dX5_seen_8 : decode cX5_seen 8 = .ok (.ifCond .eq 25, 3) := by decide +kernel
theorem dX5_seen_11 : decode cX5_seen 11 = .ok (.aload_n 0, 1) := by decide +kernel
theorem dX5_seen_12 : decode cX5_seen 12 = .ok (.getfield 10, 3) := by decide +kernel
theorem dX5_seen_15 : decode cX5_seen 15 = .ok (.getfield 68, 3) := by decide +kernel
theorem dX5_seen_18 : decode cX5_seen 18 = .ok (.iload_n 1, 1) := by decide +kernel
theorem dX5_seen_19 : decode cX5_seen 19 = .ok (.iaload, 1) := by decide +kernel
theorem dX5_seen_20 : decode cX5_seen 20 = .ok (.aload_n 0, 1) := by decide +kernel
theorem dX5_seen_21 : decode cX5_seen 21 = .ok (.getfield 10, 3) := by decide +kernel
theorem dX5_seen_24 : decode cX5_seen 24 = .ok (.getfield 83, 3) := by decide +kernel
theorem dX5_seen_27 : decode cX5_seen 27 = .ok (.iload_n 1, 1) := by decide +kernel
theorem dX5_seen_28 : decode cX5_seen 28 = .ok (.iaload, 1) := by decide +kernel
theorem dX5_seen_29 : decode cX5_seen 29 = .ok (.imul, 1) := by decide +kernel
theorem dX5_seen_30 : decode cX5_seen 30 = .ok (.goto 5, 3) := by decide +kernel
theorem dX5_seen_33 : decode cX5_seen 33 = .ok (.ldc 76, 2) := by decide +kernel
theorem dX5_seen_35 : decode cX5_seen 35 = .ok (.ireturn, 1) := by decide +kernel
set_option maxRecDepth 20000 in
theorem ggX5_unprobe_X2_takeProbeOff : GoodIn wsX5_unprobe wsX2_takeProbeOff := goodIn_r _ [6, 7, 8, 9, 10, 11, 12, 5, 13, 19, 20, 21, 22, 23, 24, 25, 26, 27] (by decide +kernel) (by decide +kernel)
set_option maxRecDepth 20000 in
theorem gX5_unprobe_X2_takeProbeOff : GoodIn wsX5_unprobe (wsV RX5 86 RX2 yX2_takeProbeOff wsX2_takeProbeOff) := goodIn_app (goodIn_of _ (by decide +kernel)) ggX5_unprobe_X2_takeProbeOff
theorem dX5_unprobe_0 : decode cX5_unprobe 0 = .ok (.aload_n 0, 1) := by decide +kernel
theorem dX5_unprobe_1 : decode cX5_unprobe 1 = .ok (.getfield 10, 3) := by decide +kernel
theorem dX5_unprobe_4 : decode cX5_unprobe 4 = .ok (.invokevirtual 86, 3) := by decide +kernel
theorem dX5_unprobe_7 : decode cX5_unprobe 7 = .ok (.ifCond .eq 7, 3) := by decide +kernel
theorem dX5_unprobe_10 : decode cX5_unprobe 10 = .ok (.iconst 1, 1) := by decide +kernel
theorem dX5_unprobe_11 : decode cX5_unprobe 11 = .ok (.goto 4, 3) := by decide +kernel
theorem dX5_unprobe_14 : decode cX5_unprobe 14 = .ok (.iconst 0, 1) := by decide +kernel
theorem dX5_unprobe_15 : decode cX5_unprobe 15 = .ok (.ireturn, 1) := by decide +kernel
set_option maxRecDepth 20000 in
theorem ggX5_gated_X2_has : GoodIn wsX5_gated wsX2_has := goodIn_r _ [8, 9, 38, 39, 40, 41, 42, 43, 44, 45, 46] (by decide +kernel) (by decide +kernel)
set_option maxRecDepth 20000 in
theorem gX5_gated_X2_has : GoodIn wsX5_gated (wsV RX5 56 RX2 yX2_has wsX2_has) := goodIn_app (goodIn_of _ (by decide +kernel)) ggX5_gated_X2_has
set_option maxRecDepth 20000 in
theorem ggX5_gated_X5_isGate : GoodIn wsX5_gated wsX5_isGate := goodIn_r _ [13, 14, 15, 12, 16] (by decide +kernel) (by decide +kernel)
set_option maxRecDepth 20000 in
theorem gX5_gated_X5_isGate : GoodIn wsX5_gated (va_wsS RX5 89 yX5_isGate wsX5_isGate) := goodIn_app (goodIn_of _ (by decide +kernel)) ggX5_gated_X5_isGate
set_option maxRecDepth 20000 in
theorem ggX5_gated_X2_sumThrough : GoodIn wsX5_gated wsX2_sumThrough := goodIn_r _ [20, 9, 21, 22, 12, 23, 24, 25, 26, 27, 28, 29, 30, 31, 32, 38, 39, 40, 41, 42, 43, 44, 45, 46] (by decide +kernel) (by decide +kernel)
set_option maxRecDepth 20000 in
theorem gX5_gated_X2_sumThrough : GoodIn wsX5_gated (wsV RX5 93 RX2 yX2_sumThrough wsX2_sumThrough) := goodIn_app (goodIn_of _ (by decide +kernel)) ggX5_gated_X2_sumThrough
theorem dX5_gated_0 : decode cX5_gated 0 = .ok (.aload_n 0, 1) := by decide +kernel
theorem dX5_gated_1 : decode cX5_gated 1 = .ok (.getfield 10, 3) := by decide +kernel
theorem dX5_gated_4 : decode cX5_gated 4 = .ok (.iload_n 1, 1) := by decide +kernel
theorem dX5_gated_5 : decode cX5_gated 5 = .ok (.invokevirtual 56, 3) := by decide +kernel
theorem dX5_gated_8 : decode cX5_gated 8 = .ok (.ifCond .ne 6, 3) := by decide +kernel
theorem dX5_gated_11 : decode cX5_gated 11 = .ok (.ldc 76, 2) := by decide +kernel
theorem dX5_gated_13 : decode cX5_gated 13 = .ok (.ireturn, 1) := by decide +kernel
theorem dX5_gated_14 : decode cX5_gated 14 = .ok (.iload_n 2, 1) := by decide +kernel
theorem dX5_gated_15 : decode cX5_gated 15 = .ok (.iload_n 3, 1) := by decide +kernel
theorem dX5_gated_16 : decode cX5_gated 16 = .ok (.invokestatic 89, 3) := by decide +kernel
theorem dX5_gated_19 : decode cX5_gated 19 = .ok (.ifCond .ne 6, 3) := by decide +kernel
theorem dX5_gated_22 : decode cX5_gated 22 = .ok (.ldc 79, 2) := by decide +kernel
theorem dX5_gated_24 : decode cX5_gated 24 = .ok (.ireturn, 1) := by decide +kernel
theorem dX5_gated_25 : decode cX5_gated 25 = .ok (.aload_n 0, 1) := by decide +kernel
theorem dX5_gated_26 : decode cX5_gated 26 = .ok (.getfield 10, 3) := by decide +kernel
theorem dX5_gated_29 : decode cX5_gated 29 = .ok (.iload_n 1, 1) := by decide +kernel
theorem dX5_gated_30 : decode cX5_gated 30 = .ok (.iload_n 2, 1) := by decide +kernel
theorem dX5_gated_31 : decode cX5_gated 31 = .ok (.iload_n 3, 1) := by decide +kernel
theorem dX5_gated_32 : decode cX5_gated 32 = .ok (.invokevirtual 93, 3) := by decide +kernel
theorem dX5_gated_35 : decode cX5_gated 35 = .ok (.ireturn, 1) := by decide +kernel
set_option maxRecDepth 20000 in
theorem ggX5_power_X5_isGate : GoodIn wsX5_power wsX5_isGate := goodIn_r _ [6, 7, 8, 5, 9] (by decide +kernel) (by decide +kernel)
set_option maxRecDepth 20000 in
theorem gX5_power_X5_isGate : GoodIn wsX5_power (va_wsS RX5 89 yX5_isGate wsX5_isGate) := goodIn_app (goodIn_of _ (by decide +kernel)) ggX5_power_X5_isGate
set_option maxRecDepth 20000 in
theorem ggX5_power_X2_squaresThrough : GoodIn wsX5_power wsX2_squaresThrough := goodIn_r _ [14, 15, 16, 17, 5, 18, 24, 25, 26, 27, 28, 29, 30, 31, 32] (by decide +kernel) (by decide +kernel)
set_option maxRecDepth 20000 in
theorem gX5_power_X2_squaresThrough : GoodIn wsX5_power (wsV RX5 97 RX2 yX2_squaresThrough wsX2_squaresThrough) := goodIn_app (goodIn_of _ (by decide +kernel)) ggX5_power_X2_squaresThrough
theorem dX5_power_0 : decode cX5_power 0 = .ok (.iload_n 1, 1) := by decide +kernel
theorem dX5_power_1 : decode cX5_power 1 = .ok (.iload_n 2, 1) := by decide +kernel
theorem dX5_power_2 : decode cX5_power 2 = .ok (.invokestatic 89, 3) := by decide +kernel
theorem dX5_power_5 : decode cX5_power 5 = .ok (.ifCond .eq 15, 3) := by decide +kernel
theorem dX5_power_8 : decode cX5_power 8 = .ok (.aload_n 0, 1) := by decide +kernel
theorem dX5_power_9 : decode cX5_power 9 = .ok (.getfield 10, 3) := by decide +kernel
theorem dX5_power_12 : decode cX5_power 12 = .ok (.iload_n 1, 1) := by decide +kernel
theorem dX5_power_13 : decode cX5_power 13 = .ok (.iload_n 2, 1) := by decide +kernel
theorem dX5_power_14 : decode cX5_power 14 = .ok (.invokevirtual 97, 3) := by decide +kernel
theorem dX5_power_17 : decode cX5_power 17 = .ok (.goto 6, 3) := by decide +kernel
theorem dX5_power_20 : decode cX5_power 20 = .ok (.ldc2_w 101, 3) := by decide +kernel
theorem dX5_power_23 : decode cX5_power 23 = .ok (.lreturn, 1) := by decide +kernel
set_option maxRecDepth 20000 in
theorem ggX5_lose_X2_has : GoodIn wsX5_lose wsX2_has := goodIn_r _ [7, 8, 22, 23, 24, 25, 26, 27, 28, 29, 30] (by decide +kernel) (by decide +kernel)
set_option maxRecDepth 20000 in
theorem gX5_lose_X2_has : GoodIn wsX5_lose (wsV RX5 56 RX2 yX2_has wsX2_has) := goodIn_app (goodIn_of _ (by decide +kernel)) ggX5_lose_X2_has
set_option maxRecDepth 20000 in
theorem ggX5_lose_X2_countLost : GoodIn wsX5_lose wsX2_countLost := goodIn_r _ [12, 13, 14, 15, 6, 16, 22, 23, 24, 25, 26, 27, 28, 29, 30] (by decide +kernel) (by decide +kernel)
set_option maxRecDepth 20000 in
theorem gX5_lose_X2_countLost : GoodIn wsX5_lose (wsV RX5 107 RX2 yX2_countLost wsX2_countLost) := goodIn_app (goodIn_of _ (by decide +kernel)) ggX5_lose_X2_countLost
theorem dX5_lose_0 : decode cX5_lose 0 = .ok (.aload_n 0, 1) := by decide +kernel
theorem dX5_lose_1 : decode cX5_lose 1 = .ok (.getfield 10, 3) := by decide +kernel
theorem dX5_lose_4 : decode cX5_lose 4 = .ok (.iload_n 1, 1) := by decide +kernel
theorem dX5_lose_5 : decode cX5_lose 5 = .ok (.invokevirtual 56, 3) := by decide +kernel
theorem dX5_lose_8 : decode cX5_lose 8 = .ok (.ifCond .ne 6, 3) := by decide +kernel
theorem dX5_lose_11 : decode cX5_lose 11 = .ok (.bipush (-101), 2) := by decide +kernel
theorem dX5_lose_13 : decode cX5_lose 13 = .ok (.ireturn, 1) := by decide +kernel
theorem dX5_lose_14 : decode cX5_lose 14 = .ok (.aload_n 0, 1) := by decide +kernel
theorem dX5_lose_15 : decode cX5_lose 15 = .ok (.getfield 10, 3) := by decide +kernel
theorem dX5_lose_18 : decode cX5_lose 18 = .ok (.getfield 103, 3) := by decide +kernel
theorem dX5_lose_21 : decode cX5_lose 21 = .ok (.iload_n 1, 1) := by decide +kernel
theorem dX5_lose_22 : decode cX5_lose 22 = .ok (.baload, 1) := by decide +kernel
theorem dX5_lose_23 : decode cX5_lose 23 = .ok (.istore_n 3, 1) := by decide +kernel
theorem dX5_lose_24 : decode cX5_lose 24 = .ok (.iload_n 2, 1) := by decide +kernel
theorem dX5_lose_25 : decode cX5_lose 25 = .ok (.ifCond .eq 21, 3) := by decide +kernel
theorem dX5_lose_28 : decode cX5_lose 28 = .ok (.iload_n 3, 1) := by decide +kernel
theorem dX5_lose_29 : decode cX5_lose 29 = .ok (.ifCond .ne 17, 3) := by decide +kernel
theorem dX5_lose_32 : decode cX5_lose 32 = .ok (.aload_n 0, 1) := by decide +kernel
theorem dX5_lose_33 : decode cX5_lose 33 = .ok (.getfield 10, 3) := by decide +kernel
theorem dX5_lose_36 : decode cX5_lose 36 = .ok (.invokevirtual 107, 3) := by decide +kernel
theorem dX5_lose_39 : decode cX5_lose 39 = .ok (.iconst 5, 1) := by decide +kernel
theorem dX5_lose_40 : decode cX5_lose 40 = .ok (.if_icmp .lt 6, 3) := by decide +kernel
theorem dX5_lose_43 : decode cX5_lose 43 = .ok (.bipush (-104), 2) := by decide +kernel
theorem dX5_lose_45 : decode cX5_lose 45 = .ok (.ireturn, 1) := by decide +kernel
theorem dX5_lose_46 : decode cX5_lose 46 = .ok (.aload_n 0, 1) := by decide +kernel
theorem dX5_lose_47 : decode cX5_lose 47 = .ok (.getfield 10, 3) := by decide +kernel
theorem dX5_lose_50 : decode cX5_lose 50 = .ok (.getfield 103, 3) := by decide +kernel
theorem dX5_lose_53 : decode cX5_lose 53 = .ok (.iload_n 1, 1) := by decide +kernel
theorem dX5_lose_54 : decode cX5_lose 54 = .ok (.iload_n 2, 1) := by decide +kernel
theorem dX5_lose_55 : decode cX5_lose 55 = .ok (.bastore, 1) := by decide +kernel
theorem dX5_lose_56 : decode cX5_lose 56 = .ok (.iload_n 3, 1) := by decide +kernel
theorem dX5_lose_57 : decode cX5_lose 57 = .ok (.ifCond .eq 7, 3) := by decide +kernel
theorem dX5_lose_60 : decode cX5_lose 60 = .ok (.iconst 1, 1) := by decide +kernel
theorem dX5_lose_61 : decode cX5_lose 61 = .ok (.goto 4, 3) := by decide +kernel
theorem dX5_lose_64 : decode cX5_lose 64 = .ok (.iconst 0, 1) := by decide +kernel
theorem dX5_lose_65 : decode cX5_lose 65 = .ok (.ireturn, 1) := by decide +kernel
set_option maxRecDepth 20000 in
theorem ggX5_mends_X5_isGate : GoodIn wsX5_mends wsX5_isGate := goodIn_r _ [6, 7, 8, 5, 9] (by decide +kernel) (by decide +kernel)
set_option maxRecDepth 20000 in
theorem gX5_mends_X5_isGate : GoodIn wsX5_mends (va_wsS RX5 89 yX5_isGate wsX5_isGate) := goodIn_app (goodIn_of _ (by decide +kernel)) ggX5_mends_X5_isGate
set_option maxRecDepth 20000 in
theorem ggX5_mends_X1_solve : GoodIn wsX5_mends wsX1_solve := goodIn_r _ [14, 15, 16, 17, 18, 19, 20, 13, 21, 22, 23, 24, 25, 26, 27, 28, 29, 5, 30, 31, 32, 33, 34, 35, 36, 37, 38, 39, 40, 41, 42, 43, 44, 45, 46, 47, 48, 49, 50, 51, 52, 53, 54, 55, 56, 57, 58, 59, 60, 61, 67, 68, 69, 70, 71, 72, 73, 74, 75, 76, 77, 78, 79] (by decide +kernel) (by decide +kernel)
set_option maxRecDepth 20000 in
theorem gX5_mends_X1_solve : GoodIn wsX5_mends (wsV RX5 111 RX1 yX1_solve wsX1_solve) := goodIn_app (goodIn_of _ (by decide +kernel)) ggX5_mends_X1_solve
theorem dX5_mends_0 : decode cX5_mends 0 = .ok (.iload_n 1, 1) := by decide +kernel
theorem dX5_mends_1 : decode cX5_mends 1 = .ok (.iload_n 2, 1) := by decide +kernel
theorem dX5_mends_2 : decode cX5_mends 2 = .ok (.invokestatic 89, 3) := by decide +kernel
theorem dX5_mends_5 : decode cX5_mends 5 = .ok (.ifCond .eq 19, 3) := by decide +kernel
theorem dX5_mends_8 : decode cX5_mends 8 = .ok (.aload_n 0, 1) := by decide +kernel
theorem dX5_mends_9 : decode cX5_mends 9 = .ok (.getfield 19, 3) := by decide +kernel
theorem dX5_mends_12 : decode cX5_mends 12 = .ok (.aload_n 0, 1) := by decide +kernel
theorem dX5_mends_13 : decode cX5_mends 13 = .ok (.getfield 10, 3) := by decide +kernel
theorem dX5_mends_16 : decode cX5_mends 16 = .ok (.iload_n 1, 1) := by decide +kernel
theorem dX5_mends_17 : decode cX5_mends 17 = .ok (.iload_n 2, 1) := by decide +kernel
theorem dX5_mends_18 : decode cX5_mends 18 = .ok (.invokevirtual 111, 3) := by decide +kernel
theorem dX5_mends_21 : decode cX5_mends 21 = .ok (.goto 5, 3) := by decide +kernel
theorem dX5_mends_24 : decode cX5_mends 24 = .ok (.bipush (-102), 2) := by decide +kernel
theorem dX5_mends_26 : decode cX5_mends 26 = .ok (.ireturn, 1) := by decide +kernel
set_option maxRecDepth 20000 in
theorem ggX5_mend_X2_has : GoodIn wsX5_mend wsX2_has := goodIn_r _ [11, 12, 97, 98, 99, 100, 101, 102, 103, 104, 105] (by decide +kernel) (by decide +kernel)
set_option maxRecDepth 20000 in
theorem gX5_mend_X2_has : GoodIn wsX5_mend (wsV RX5 56 RX2 yX2_has wsX2_has) := goodIn_app (goodIn_of _ (by decide +kernel)) ggX5_mend_X2_has
set_option maxRecDepth 20000 in
theorem ggX5_mend_X5_isGate : GoodIn wsX5_mend wsX5_isGate := goodIn_r _ [16, 17, 18, 15, 19] (by decide +kernel) (by decide +kernel)
set_option maxRecDepth 20000 in
theorem gX5_mend_X5_isGate : GoodIn wsX5_mend (va_wsS RX5 89 yX5_isGate wsX5_isGate) := goodIn_app (goodIn_of _ (by decide +kernel)) ggX5_mend_X5_isGate
set_option maxRecDepth 20000 in
theorem ggX5_mend_X5_isOutside : GoodIn wsX5_mend wsX5_isOutside := goodIn_r _ [19] (by decide +kernel) (by decide +kernel)
set_option maxRecDepth 20000 in
theorem gX5_mend_X5_isOutside : GoodIn wsX5_mend (va_wsS RX5 44 yX5_isOutside wsX5_isOutside) := goodIn_app (goodIn_of _ (by decide +kernel)) ggX5_mend_X5_isOutside
set_option maxRecDepth 20000 in
theorem ggX5_mend_X1_solve : GoodIn wsX5_mend wsX1_solve := goodIn_r _ [24, 25, 26, 27, 28, 29, 30, 23, 31, 32, 33, 34, 35, 36, 37, 38, 39, 15, 40, 41, 42, 43, 44, 45, 46, 47, 48, 49, 50, 51, 52, 53, 54, 55, 56, 57, 58, 59, 60, 61, 62, 63, 64, 65, 66, 67, 68, 69, 70, 71, 106, 107, 108, 109, 97, 98, 99, 100, 101, 102, 103, 104, 105] (by decide +kernel) (by decide +kernel)
set_option maxRecDepth 20000 in
theorem gX5_mend_X1_solve : GoodIn wsX5_mend (wsV RX5 111 RX1 yX1_solve wsX1_solve) := goodIn_app (goodIn_of _ (by decide +kernel)) ggX5_mend_X1_solve
set_option maxRecDepth 20000 in
theorem ggX5_mend_X1_partOf : GoodIn wsX5_mend wsX1_partOf := goodIn_r _ [75, 27, 34, 76, 77, 78, 79, 23, 80, 26, 81, 82, 83, 84, 85, 86, 87, 88, 89, 90, 91, 106, 107, 108, 109] (by decide +kernel) (by decide +kernel)
set_option maxRecDepth 20000 in
theorem gX5_mend_X1_partOf : GoodIn wsX5_mend (wsV RX5 121 RX1 yX1_partOf wsX1_partOf) := goodIn_app (goodIn_of _ (by decide +kernel)) ggX5_mend_X1_partOf
theorem dX5_mend_0 : decode cX5_mend 0 = .ok (.aload_n 0, 1) := by decide +kernel
theorem dX5_mend_1 : decode cX5_mend 1 = .ok (.getfield 10, 3) := by decide +kernel
theorem dX5_mend_4 : decode cX5_mend 4 = .ok (.iload_n 1, 1) := by decide +kernel
theorem dX5_mend_5 : decode cX5_mend 5 = .ok (.invokevirtual 56, 3) := by decide +kernel
theorem dX5_mend_8 : decode cX5_mend 8 = .ok (.ifCond .eq 15, 3) := by decide +kernel
theorem dX5_mend_11 : decode cX5_mend 11 = .ok (.aload_n 0, 1) := by decide +kernel
theorem dX5_mend_12 : decode cX5_mend 12 = .ok (.getfield 10, 3) := by decide +kernel
theorem dX5_mend_15 : decode cX5_mend 15 = .ok (.getfield 103, 3) := by decide +kernel
theorem dX5_mend_18 : decode cX5_mend 18 = .ok (.iload_n 1, 1) := by decide +kernel
theorem dX5_mend_19 : decode cX5_mend 19 = .ok (.baload, 1) := by decide +kernel
theorem dX5_mend_20 : decode cX5_mend 20 = .ok (.ifCond .ne 7, 3) := by decide +kernel
theorem dX5_mend_23 : decode cX5_mend 23 = .ok (.ldc2_w 115, 3) := by decide +kernel
theorem dX5_mend_26 : decode cX5_mend 26 = .ok (.lreturn, 1) := by decide +kernel
theorem dX5_mend_27 : decode cX5_mend 27 = .ok (.iload_n 2, 1) := by decide +kernel
theorem dX5_mend_28 : decode cX5_mend 28 = .ok (.iload_n 3, 1) := by decide +kernel
theorem dX5_mend_29 : decode cX5_mend 29 = .ok (.invokestatic 89, 3) := by decide +kernel
theorem dX5_mend_32 : decode cX5_mend 32 = .ok (.ifCond .eq 13, 3) := by decide +kernel
theorem dX5_mend_35 : decode cX5_mend 35 = .ok (.iload 4, 2) := by decide +kernel
theorem dX5_mend_37 : decode cX5_mend 37 = .ok (.iconst 0, 1) := by decide +kernel
theorem dX5_mend_38 : decode cX5_mend 38 = .ok (.iconst 1, 1) := by decide +kernel
theorem dX5_mend_39 : decode cX5_mend 39 = .ok (.invokestatic 44, 3) := by decide +kernel
theorem dX5_mend_42 : decode cX5_mend 42 = .ok (.ifCond .eq 7, 3) := by decide +kernel
theorem dX5_mend_45 : decode cX5_mend 45 = .ok (.ldc2_w 117, 3) := by decide +kernel
theorem dX5_mend_48 : decode cX5_mend 48 = .ok (.lreturn, 1) := by decide +kernel
theorem dX5_mend_49 : decode cX5_mend 49 = .ok (.aload_n 0, 1) := by decide +kernel
theorem dX5_mend_50 : decode cX5_mend 50 = .ok (.getfield 19, 3) := by decide +kernel
theorem dX5_mend_53 : decode cX5_mend 53 = .ok (.aload_n 0, 1) := by decide +kernel
theorem dX5_mend_54 : decode cX5_mend 54 = .ok (.getfield 10, 3) := by decide +kernel
theorem dX5_mend_57 : decode cX5_mend 57 = .ok (.iload_n 2, 1) := by decide +kernel
theorem dX5_mend_58 : decode cX5_mend 58 = .ok (.iload_n 3, 1) := by decide +kernel
theorem dX5_mend_59 : decode cX5_mend 59 = .ok (.invokevirtual 111, 3) := by decide +kernel
theorem dX5_mend_62 : decode cX5_mend 62 = .ok (.iconst 1, 1) := by decide +kernel
theorem dX5_mend_63 : decode cX5_mend 63 = .ok (.if_icmp .eq 7, 3) := by decide +kernel
theorem dX5_mend_66 : decode cX5_mend 66 = .ok (.ldc2_w 119, 3) := by decide +kernel
theorem dX5_mend_69 : decode cX5_mend 69 = .ok (.lreturn, 1) := by decide +kernel
theorem dX5_mend_70 : decode cX5_mend 70 = .ok (.aload_n 0, 1) := by decide +kernel
theorem dX5_mend_71 : decode cX5_mend 71 = .ok (.getfield 19, 3) := by decide +kernel
theorem dX5_mend_74 : decode cX5_mend 74 = .ok (.iload_n 1, 1) := by decide +kernel
theorem dX5_mend_75 : decode cX5_mend 75 = .ok (.iload 4, 2) := by decide +kernel
theorem dX5_mend_77 : decode cX5_mend 77 = .ok (.invokevirtual 121, 3) := by decide +kernel
theorem dX5_mend_80 : decode cX5_mend 80 = .ok (.lreturn, 1) := by decide +kernel
set_option maxRecDepth 20000 in
theorem ggX5_sheet_X5_isOutside : GoodIn wsX5_sheet wsX5_isOutside := goodIn_r _ [5] (by decide +kernel) (by decide +kernel)
set_option maxRecDepth 20000 in
theorem gX5_sheet_X5_isOutside : GoodIn wsX5_sheet (va_wsS RX5 44 yX5_isOutside wsX5_isOutside) := goodIn_app (goodIn_of _ (by decide +kernel)) ggX5_sheet_X5_isOutside
set_option maxRecDepth 20000 in
theorem ggX5_sheet_X4_startAnew : GoodIn wsX5_sheet wsX4_startAnew := goodIn_r _ [10, 11, 12, 13, 19, 20, 21] (by decide +kernel) (by decide +kernel)
set_option maxRecDepth 20000 in
theorem gX5_sheet_X4_startAnew : GoodIn wsX5_sheet (wsV RX5 124 RX4 yX4_startAnew wsX4_startAnew) := goodIn_app (goodIn_of _ (by decide +kernel)) ggX5_sheet_X4_startAnew
theorem dX5_sheet_0 : decode cX5_sheet 0 = .ok (.iload_n 1, 1) := by decide +kernel
theorem dX5_sheet_1 : decode cX5_sheet 1 = .ok (.iconst 2, 1) := by decide +kernel
theorem dX5_sheet_2 : decode cX5_sheet 2 = .ok (.bipush 8, 2) := by decide +kernel
theorem dX5_sheet_4 : decode cX5_sheet 4 = .ok (.invokestatic 44, 3) := by decide +kernel
theorem dX5_sheet_7 : decode cX5_sheet 7 = .ok (.ifCond .ne 13, 3) := by decide +kernel
theorem dX5_sheet_10 : decode cX5_sheet 10 = .ok (.iload_n 2, 1) := by decide +kernel
theorem dX5_sheet_11 : decode cX5_sheet 11 = .ok (.iconst 1, 1) := by decide +kernel
theorem dX5_sheet_12 : decode cX5_sheet 12 = .ok (.bipush 8, 2) := by decide +kernel
theorem dX5_sheet_14 : decode cX5_sheet 14 = .ok (.invokestatic 44, 3) := by decide +kernel
theorem dX5_sheet_17 : decode cX5_sheet 17 = .ok (.ifCond .eq 6, 3) := by decide +kernel
theorem dX5_sheet_20 : decode cX5_sheet 20 = .ok (.bipush (-102), 2) := by decide +kernel
theorem dX5_sheet_22 : decode cX5_sheet 22 = .ok (.ireturn, 1) := by decide +kernel
theorem dX5_sheet_23 : decode cX5_sheet 23 = .ok (.aload_n 0, 1) := by decide +kernel
theorem dX5_sheet_24 : decode cX5_sheet 24 = .ok (.getfield 26, 3) := by decide +kernel
theorem dX5_sheet_27 : decode cX5_sheet 27 = .ok (.iload_n 1, 1) := by decide +kernel
theorem dX5_sheet_28 : decode cX5_sheet 28 = .ok (.iload_n 2, 1) := by decide +kernel
theorem dX5_sheet_29 : decode cX5_sheet 29 = .ok (.invokevirtual 124, 3) := by decide +kernel
theorem dX5_sheet_32 : decode cX5_sheet 32 = .ok (.iload_n 1, 1) := by decide +kernel
theorem dX5_sheet_33 : decode cX5_sheet 33 = .ok (.iload_n 2, 1) := by decide +kernel
theorem dX5_sheet_34 : decode cX5_sheet 34 = .ok (.imul, 1) := by decide +kernel
theorem dX5_sheet_35 : decode cX5_sheet 35 = .ok (.ireturn, 1) := by decide +kernel
set_option maxRecDepth 20000 in
theorem ggX5_cell_X4_holds : GoodIn wsX5_cell wsX4_holds := goodIn_r _ [7, 8, 9, 19, 20, 21] (by decide +kernel) (by decide +kernel)
set_option maxRecDepth 20000 in
theorem gX5_cell_X4_holds : GoodIn wsX5_cell (wsV RX5 126 RX4 yX4_holds wsX4_holds) := goodIn_app (goodIn_of _ (by decide +kernel)) ggX5_cell_X4_holds
set_option maxRecDepth 20000 in
theorem ggX5_cell_X5_isOutside : GoodIn wsX5_cell wsX5_isOutside := goodIn_r _ [13] (by decide +kernel) (by decide +kernel)
set_option maxRecDepth 20000 in
theorem gX5_cell_X5_isOutside : GoodIn wsX5_cell (va_wsS RX5 44 yX5_isOutside wsX5_isOutside) := goodIn_app (goodIn_of _ (by decide +kernel)) ggX5_cell_X5_isOutside
theorem dX5_cell_0 : decode cX5_cell 0 = .ok (.aload_n 0, 1) := by decide +kernel
theorem dX5_cell_1 : decode cX5_cell 1 = .ok (.getfield 26, 3) := by decide +kernel
theorem dX5_cell_4 : decode cX5_cell 4 = .ok (.iload_n 1, 1) := by decide +kernel
theorem dX5_cell_5 : decode cX5_cell 5 = .ok (.iload_n 2, 1) := by decide +kernel
theorem dX5_cell_6 : decode cX5_cell 6 = .ok (.invokevirtual 126, 3) := by decide +kernel
theorem dX5_cell_9 : decode cX5_cell 9 = .ok (.ifCond .ne 7, 3) := by decide +kernel
theorem dX5_cell_12 : decode cX5_cell 12 = .ok (.sipush (-10101), 3) := by decide +kernel
theorem dX5_cell_15 : decode cX5_cell 15 = .ok (.ireturn, 1) := by decide +kernel
theorem dX5_cell_16 : decode cX5_cell 16 = .ok (.iload_n 3, 1) := by decide +kernel
theorem dX5_cell_17 : decode cX5_cell 17 = .ok (.sipush (-1000), 3) := by decide +kernel
theorem dX5_cell_20 : decode cX5_cell 20 = .ok (.sipush 1000, 3) := by decide +kernel
theorem dX5_cell_23 : decode cX5_cell 23 = .ok (.invokestatic 44, 3) := by decide +kernel
theorem dX5_cell_26 : decode cX5_cell 26 = .ok (.ifCond .eq 7, 3) := by decide +kernel
theorem dX5_cell_29 : decode cX5_cell 29 = .ok (.sipush (-10102), 3) := by decide +kernel
theorem dX5_cell_32 : decode cX5_cell 32 = .ok (.ireturn, 1) := by decide +kernel
theorem dX5_cell_33 : decode cX5_cell 33 = .ok (.aload_n 0, 1) := by decide +kernel
theorem dX5_cell_34 : decode cX5_cell 34 = .ok (.getfield 26, 3) := by decide +kernel
theorem dX5_cell_37 : decode cX5_cell 37 = .ok (.getfield 129, 3) := by decide +kernel
theorem dX5_cell_40 : decode cX5_cell 40 = .ok (.iload_n 1, 1) := by decide +kernel
theorem dX5_cell_41 : decode cX5_cell 41 = .ok (.aaload, 1) := by decide +kernel
theorem dX5_cell_42 : decode cX5_cell 42 = .ok (.iload_n 2, 1) := by decide +kernel
theorem dX5_cell_43 : decode cX5_cell 43 = .ok (.iaload, 1) := by decide +kernel
theorem dX5_cell_44 : decode cX5_cell 44 = .ok (.istore 4, 2) := by decide +kernel
theorem dX5_cell_46 : decode cX5_cell 46 = .ok (.aload_n 0, 1) := by decide +kernel
theorem dX5_cell_47 : decode cX5_cell 47 = .ok (.getfield 26, 3) := by decide +kernel
theorem dX5_cell_50 : decode cX5_cell 50 = .ok (.getfield 129, 3) := by decide +kernel
theorem dX5_cell_53 : decode cX5_cell 53 = .ok (.iload_n 1, 1) := by decide +kernel
theorem dX5_cell_54 : decode cX5_cell 54 = .ok (.aaload, 1) := by decide +kernel
theorem dX5_cell_55 : decode cX5_cell 55 = .ok (.iload_n 2, 1) := by decide +kernel
theorem dX5_cell_56 : decode cX5_cell 56 = .ok (.iload_n 3, 1) := by decide +kernel
theorem dX5_cell_57 : decode cX5_cell 57 = .ok (.iastore, 1) := by decide +kernel
theorem dX5_cell_58 : decode cX5_cell 58 = .ok (.iload 4, 2) := by decide +kernel
theorem dX5_cell_60 : decode cX5_cell 60 = .ok (.ireturn, 1) := by decide +kernel
set_option maxRecDepth 20000 in
theorem ggX5_closed_X5_isOutside : GoodIn wsX5_closed wsX5_isOutside := goodIn_r _ [7] (by decide +kernel) (by decide +kernel)
set_option maxRecDepth 20000 in
theorem gX5_closed_X5_isOutside : GoodIn wsX5_closed (va_wsS RX5 44 yX5_isOutside wsX5_isOutside) := goodIn_app (goodIn_of _ (by decide +kernel)) ggX5_closed_X5_isOutside
set_option maxRecDepth 20000 in
theorem ggX5_closed_X4_closedCell : GoodIn wsX5_closed wsX4_closedCell := goodIn_r _ [12, 13, 14, 15, 16, 17, 18, 24, 25, 26] (by decide +kernel) (by decide +kernel)
set_option maxRecDepth 20000 in
theorem gX5_closed_X4_closedCell : GoodIn wsX5_closed (wsV RX5 139 RX4 yX4_closedCell wsX4_closedCell) := goodIn_app (goodIn_of _ (by decide +kernel)) ggX5_closed_X4_closedCell
theorem dX5_closed_0 : decode cX5_closed 0 = .ok (.iload_n 1, 1) := by decide +kernel
theorem dX5_closed_1 : decode cX5_closed 1 = .ok (.iconst 0, 1) := by decide +kernel
theorem dX5_closed_2 : decode cX5_closed 2 = .ok (.aload_n 0, 1) := by decide +kernel
theorem dX5_closed_3 : decode cX5_closed 3 = .ok (.getfield 26, 3) := by decide +kernel
theorem dX5_closed_6 : decode cX5_closed 6 = .ok (.getfield 133, 3) := by decide +kernel
theorem dX5_closed_9 : decode cX5_closed 9 = .ok (.invokestatic 44, 3) := by decide +kernel
theorem dX5_closed_12 : decode cX5_closed 12 = .ok (.ifCond .ne 20, 3) := by decide +kernel
theorem dX5_closed_15 : decode cX5_closed 15 = .ok (.iload_n 2, 1) := by decide +kernel
theorem dX5_closed_16 : decode cX5_closed 16 = .ok (.iconst 0, 1) := by decide +kernel
theorem dX5_closed_17 : decode cX5_closed 17 = .ok (.aload_n 0, 1) := by decide +kernel
theorem dX5_closed_18 : decode cX5_closed 18 = .ok (.getfield 26, 3) := by decide +kernel
theorem dX5_closed_21 : decode cX5_closed 21 = .ok (.getfield 136, 3) := by decide +kernel
theorem dX5_closed_24 : decode cX5_closed 24 = .ok (.iconst 1, 1) := by decide +kernel
theorem dX5_closed_25 : decode cX5_closed 25 = .ok (.isub, 1) := by decide +kernel
theorem dX5_closed_26 : decode cX5_closed 26 = .ok (.invokestatic 44, 3) := by decide +kernel
theorem dX5_closed_29 : decode cX5_closed 29 = .ok (.ifCond .eq 7, 3) := by decide +kernel
theorem dX5_closed_32 : decode cX5_closed 32 = .ok (.sipush (-10101), 3) := by decide +kernel
theorem dX5_closed_35 : decode cX5_closed 35 = .ok (.ireturn, 1) := by decide +kernel
theorem dX5_closed_36 : decode cX5_closed 36 = .ok (.aload_n 0, 1) := by decide +kernel
theorem dX5_closed_37 : decode cX5_closed 37 = .ok (.getfield 26, 3) := by decide +kernel
theorem dX5_closed_40 : decode cX5_closed 40 = .ok (.iload_n 1, 1) := by decide +kernel
theorem dX5_closed_41 : decode cX5_closed 41 = .ok (.iload_n 2, 1) := by decide +kernel
theorem dX5_closed_42 : decode cX5_closed 42 = .ok (.invokevirtual 139, 3) := by decide +kernel
theorem dX5_closed_45 : decode cX5_closed 45 = .ok (.ireturn, 1) := by decide +kernel
set_option maxRecDepth 20000 in
theorem ggX5_tied_X5_isOutside : GoodIn wsX5_tied wsX5_isOutside := goodIn_r _ [7] (by decide +kernel) (by decide +kernel)
set_option maxRecDepth 20000 in
theorem gX5_tied_X5_isOutside : GoodIn wsX5_tied (va_wsS RX5 44 yX5_isOutside wsX5_isOutside) := goodIn_app (goodIn_of _ (by decide +kernel)) ggX5_tied_X5_isOutside
set_option maxRecDepth 20000 in
theorem ggX5_tied_X4_tiedCell : GoodIn wsX5_tied wsX4_tiedCell := goodIn_r _ [12, 13, 14, 20, 21, 22] (by decide +kernel) (by decide +kernel)
set_option maxRecDepth 20000 in
theorem gX5_tied_X4_tiedCell : GoodIn wsX5_tied (wsV RX5 143 RX4 yX4_tiedCell wsX4_tiedCell) := goodIn_app (goodIn_of _ (by decide +kernel)) ggX5_tied_X4_tiedCell
theorem dX5_tied_0 : decode cX5_tied 0 = .ok (.iload_n 1, 1) := by decide +kernel
theorem dX5_tied_1 : decode cX5_tied 1 = .ok (.iconst 0, 1) := by decide +kernel
theorem dX5_tied_2 : decode cX5_tied 2 = .ok (.aload_n 0, 1) := by decide +kernel
theorem dX5_tied_3 : decode cX5_tied 3 = .ok (.getfield 26, 3) := by decide +kernel
theorem dX5_tied_6 : decode cX5_tied 6 = .ok (.getfield 133, 3) := by decide +kernel
theorem dX5_tied_9 : decode cX5_tied 9 = .ok (.iconst 1, 1) := by decide +kernel
theorem dX5_tied_10 : decode cX5_tied 10 = .ok (.isub, 1) := by decide +kernel
theorem dX5_tied_11 : decode cX5_tied 11 = .ok (.invokestatic 44, 3) := by decide +kernel
theorem dX5_tied_14 : decode cX5_tied 14 = .ok (.ifCond .ne 20, 3) := by decide +kernel
theorem dX5_tied_17 : decode cX5_tied 17 = .ok (.iload_n 2, 1) := by decide +kernel
theorem dX5_tied_18 : decode cX5_tied 18 = .ok (.iconst 0, 1) := by decide +kernel
theorem dX5_tied_19 : decode cX5_tied 19 = .ok (.aload_n 0, 1) := by decide +kernel
theorem dX5_tied_20 : decode cX5_tied 20 = .ok (.getfield 26, 3) := by decide +kernel
theorem dX5_tied_23 : decode cX5_tied 23 = .ok (.getfield 136, 3) := by decide +kernel
theorem dX5_tied_26 : decode cX5_tied 26 = .ok (.iconst 1, 1) := by decide +kernel
theorem dX5_tied_27 : decode cX5_tied 27 = .ok (.isub, 1) := by decide +kernel
theorem dX5_tied_28 : decode cX5_tied 28 = .ok (.invokestatic 44, 3) := by decide +kernel
theorem dX5_tied_31 : decode cX5_tied 31 = .ok (.ifCond .eq 7, 3) := by decide +kernel
theorem dX5_tied_34 : decode cX5_tied 34 = .ok (.sipush (-10101), 3) := by decide +kernel
theorem dX5_tied_37 : decode cX5_tied 37 = .ok (.ireturn, 1) := by decide +kernel
theorem dX5_tied_38 : decode cX5_tied 38 = .ok (.aload_n 0, 1) := by decide +kernel
theorem dX5_tied_39 : decode cX5_tied 39 = .ok (.getfield 26, 3) := by decide +kernel
theorem dX5_tied_42 : decode cX5_tied 42 = .ok (.iload_n 1, 1) := by decide +kernel
theorem dX5_tied_43 : decode cX5_tied 43 = .ok (.iload_n 2, 1) := by decide +kernel
theorem dX5_tied_44 : decode cX5_tied 44 = .ok (.invokevirtual 143, 3) := by decide +kernel
theorem dX5_tied_47 : decode cX5_tied 47 = .ok (.ireturn, 1) := by decide +kernel
set_option maxRecDepth 20000 in
theorem ggX5_antennas_X5_isOutside : GoodIn wsX5_antennas wsX5_isOutside := goodIn_r _ [5] (by decide +kernel) (by decide +kernel)
set_option maxRecDepth 20000 in
theorem gX5_antennas_X5_isOutside : GoodIn wsX5_antennas (va_wsS RX5 44 yX5_isOutside wsX5_isOutside) := goodIn_app (goodIn_of _ (by decide +kernel)) ggX5_antennas_X5_isOutside
set_option maxRecDepth 20000 in
theorem ggX5_antennas_X3_startAnew : GoodIn wsX5_antennas wsX3_startAnew := goodIn_r _ [10, 11, 12, 13, 19, 20, 21] (by decide +kernel) (by decide +kernel)
set_option maxRecDepth 20000 in
theorem gX5_antennas_X3_startAnew : GoodIn wsX5_antennas (wsV RX5 146 RX3 yX3_startAnew wsX3_startAnew) := goodIn_app (goodIn_of _ (by decide +kernel)) ggX5_antennas_X3_startAnew
theorem dX5_antennas_0 : decode cX5_antennas 0 = .ok (.iload_n 1, 1) := by decide +kernel
theorem dX5_antennas_1 : decode cX5_antennas 1 = .ok (.iconst 3, 1) := by decide +kernel
theorem dX5_antennas_2 : decode cX5_antennas 2 = .ok (.iconst 5, 1) := by decide +kernel
theorem dX5_antennas_3 : decode cX5_antennas 3 = .ok (.invokestatic 44, 3) := by decide +kernel
theorem dX5_antennas_6 : decode cX5_antennas 6 = .ok (.ifCond .eq 6, 3) := by decide +kernel
theorem dX5_antennas_9 : decode cX5_antennas 9 = .ok (.bipush (-102), 2) := by decide +kernel
theorem dX5_antennas_11 : decode cX5_antennas 11 = .ok (.ireturn, 1) := by decide +kernel
theorem dX5_antennas_12 : decode cX5_antennas 12 = .ok (.aload_n 0, 1) := by decide +kernel
theorem dX5_antennas_13 : decode cX5_antennas 13 = .ok (.getfield 33, 3) := by decide +kernel
theorem dX5_antennas_16 : decode cX5_antennas 16 = .ok (.iload_n 1, 1) := by decide +kernel
theorem dX5_antennas_17 : decode cX5_antennas 17 = .ok (.invokevirtual 146, 3) := by decide +kernel
theorem dX5_antennas_20 : decode cX5_antennas 20 = .ok (.iload_n 1, 1) := by decide +kernel
theorem dX5_antennas_21 : decode cX5_antennas 21 = .ok (.ireturn, 1) := by decide +kernel
set_option maxRecDepth 20000 in
theorem ggX5_together_X3_has : GoodIn wsX5_together wsX3_has := goodIn_r _ [7, 8, 24, 25, 26] (by decide +kernel) (by decide +kernel)
set_option maxRecDepth 20000 in
theorem gX5_together_X3_has : GoodIn wsX5_together (wsV RX5 147 RX3 yX3_has wsX3_has) := goodIn_app (goodIn_of _ (by decide +kernel)) ggX5_together_X3_has
set_option maxRecDepth 20000 in
theorem ggX5_together_X5_isOutside : GoodIn wsX5_together wsX5_isOutside := goodIn_r _ [12] (by decide +kernel) (by decide +kernel)
set_option maxRecDepth 20000 in
theorem gX5_together_X5_isOutside : GoodIn wsX5_together (va_wsS RX5 44 yX5_isOutside wsX5_isOutside) := goodIn_app (goodIn_of _ (by decide +kernel)) ggX5_together_X5_isOutside
set_option maxRecDepth 20000 in
theorem ggX5_together_X3_put : GoodIn wsX5_together wsX3_put := goodIn_r _ [16, 17, 18, 24, 25, 26] (by decide +kernel) (by decide +kernel)
set_option maxRecDepth 20000 in
theorem gX5_together_X3_put : GoodIn wsX5_together (wsV RX5 151 RX3 yX3_put wsX3_put) := goodIn_app (goodIn_of _ (by decide +kernel)) ggX5_together_X3_put
theorem dX5_together_0 : decode cX5_together 0 = .ok (.aload_n 0, 1) := by decide +kernel
theorem dX5_together_1 : decode cX5_together 1 = .ok (.getfield 33, 3) := by decide +kernel
theorem dX5_together_4 : decode cX5_together 4 = .ok (.iload_n 1, 1) := by decide +kernel
theorem dX5_together_5 : decode cX5_together 5 = .ok (.invokevirtual 147, 3) := by decide +kernel
theorem dX5_together_8 : decode cX5_together 8 = .ok (.ifCond .eq 19, 3) := by decide +kernel
theorem dX5_together_11 : decode cX5_together 11 = .ok (.aload_n 0, 1) := by decide +kernel
theorem dX5_together_12 : decode cX5_together 12 = .ok (.getfield 33, 3) := by decide +kernel
theorem dX5_together_15 : decode cX5_together 15 = .ok (.iload_n 2, 1) := by decide +kernel
theorem dX5_together_16 : decode cX5_together 16 = .ok (.invokevirtual 147, 3) := by decide +kernel
theorem dX5_together_19 : decode cX5_together 19 = .ok (.ifCond .eq 8, 3) := by decide +kernel
theorem dX5_together_22 : decode cX5_together 22 = .ok (.iload_n 1, 1) := by decide +kernel
theorem dX5_together_23 : decode cX5_together 23 = .ok (.iload_n 2, 1) := by decide +kernel
theorem dX5_together_24 : decode cX5_together 24 = .ok (.if_icmp .ne 6, 3) := by decide +kernel
theorem dX5_together_27 : decode cX5_together 27 = .ok (.bipush (-101), 2) := by decide +kernel
theorem dX5_together_29 : decode cX5_together 29 = .ok (.ireturn, 1) := by decide +kernel
theorem dX5_together_30 : decode cX5_together 30 = .ok (.iload_n 3, 1) := by decide +kernel
theorem dX5_together_31 : decode cX5_together 31 = .ok (.sipush (-10000), 3) := by decide +kernel
theorem dX5_together_34 : decode cX5_together 34 = .ok (.sipush 10000, 3) := by decide +kernel
theorem dX5_together_37 : decode cX5_together 37 = .ok (.invokestatic 44, 3) := by decide +kernel
theorem dX5_together_40 : decode cX5_together 40 = .ok (.ifCond .eq 6, 3) := by decide +kernel
theorem dX5_together_43 : decode cX5_together 43 = .ok (.bipush (-102), 2) := by decide +kernel
theorem dX5_together_45 : decode cX5_together 45 = .ok (.ireturn, 1) := by decide +kernel
theorem dX5_together_46 : decode cX5_together 46 = .ok (.aload_n 0, 1) := by decide +kernel
theorem dX5_together_47 : decode cX5_together 47 = .ok (.getfield 33, 3) := by decide +kernel
theorem dX5_together_50 : decode cX5_together 50 = .ok (.getfield 148, 3) := by decide +kernel
theorem dX5_together_53 : decode cX5_together 53 = .ok (.iload_n 1, 1) := by decide +kernel
theorem dX5_together_54 : decode cX5_together 54 = .ok (.aaload, 1) := by decide +kernel
theorem dX5_together_55 : decode cX5_together 55 = .ok (.iload_n 2, 1) := by decide +kernel
theorem dX5_together_56 : decode cX5_together 56 = .ok (.iaload, 1) := by decide +kernel
theorem dX5_together_57 : decode cX5_together 57 = .ok (.istore 5, 2) := by decide +kernel
theorem dX5_together_59 : decode cX5_together 59 = .ok (.aload_n 0, 1) := by decide +kernel
theorem dX5_together_60 : decode cX5_together 60 = .ok (.getfield 33, 3) := by decide +kernel
theorem dX5_together_63 : decode cX5_together 63 = .ok (.iload_n 1, 1) := by decide +kernel
theorem dX5_together_64 : decode cX5_together 64 = .ok (.iload_n 2, 1) := by decide +kernel
theorem dX5_together_65 : decode cX5_together 65 = .ok (.iload_n 3, 1) := by decide +kernel
theorem dX5_together_66 : decode cX5_together 66 = .ok (.iload 4, 2) := by decide +kernel
theorem dX5_together_68 : decode cX5_together 68 = .ok (.invokevirtual 151, 3) := by decide +kernel
theorem dX5_together_71 : decode cX5_together 71 = .ok (.iload 5, 2) := by decide +kernel
theorem dX5_together_73 : decode cX5_together 73 = .ok (.ireturn, 1) := by decide +kernel
set_option maxRecDepth 20000 in
theorem ggX5_gain_X3_has : GoodIn wsX5_gain wsX3_has := goodIn_r _ [7, 8, 29, 30, 31] (by decide +kernel) (by decide +kernel)
set_option maxRecDepth 20000 in
theorem gX5_gain_X3_has : GoodIn wsX5_gain (wsV RX5 147 RX3 yX3_has wsX3_has) := goodIn_app (goodIn_of _ (by decide +kernel)) ggX5_gain_X3_has
set_option maxRecDepth 20000 in
theorem ggX5_gain_X3_firstGain : GoodIn wsX5_gain wsX3_firstGain := goodIn_r _ [12, 8, 13, 14, 15, 16, 6, 17, 18, 19, 20, 21, 22, 23, 29, 30, 31] (by decide +kernel) (by decide +kernel)
set_option maxRecDepth 20000 in
theorem gX5_gain_X3_firstGain : GoodIn wsX5_gain (wsV RX5 155 RX3 yX3_firstGain wsX3_firstGain) := goodIn_app (goodIn_of _ (by decide +kernel)) ggX5_gain_X3_firstGain
theorem dX5_gain_0 : decode cX5_gain 0 = .ok (.aload_n 0, 1) := by decide +kernel
theorem dX5_gain_1 : decode cX5_gain 1 = .ok (.getfield 33, 3) := by decide +kernel
theorem dX5_gain_4 : decode cX5_gain 4 = .ok (.iload_n 1, 1) := by decide +kernel
theorem dX5_gain_5 : decode cX5_gain 5 = .ok (.invokevirtual 147, 3) := by decide +kernel
theorem dX5_gain_8 : decode cX5_gain 8 = .ok (.ifCond .eq 14, 3) := by decide +kernel
theorem dX5_gain_11 : decode cX5_gain 11 = .ok (.aload_n 0, 1) := by decide +kernel
theorem dX5_gain_12 : decode cX5_gain 12 = .ok (.getfield 33, 3) := by decide +kernel
theorem dX5_gain_15 : decode cX5_gain 15 = .ok (.iload_n 1, 1) := by decide +kernel
theorem dX5_gain_16 : decode cX5_gain 16 = .ok (.invokevirtual 155, 3) := by decide +kernel
theorem dX5_gain_19 : decode cX5_gain 19 = .ok (.goto 5, 3) := by decide +kernel
theorem dX5_gain_22 : decode cX5_gain 22 = .ok (.ldc 71, 2) := by decide +kernel
theorem dX5_gain_24 : decode cX5_gain 24 = .ok (.ireturn, 1) := by decide +kernel
set_option maxRecDepth 20000 in
theorem ggX5_loose_X3_spread : GoodIn wsX5_loose wsX3_spread := goodIn_r _ [11, 12, 13, 14, 5, 15, 16, 4, 6, 17, 18, 19, 10, 20, 21, 22, 23, 24, 25, 26, 32, 33, 34] (by decide +kernel) (by decide +kernel)
set_option maxRecDepth 20000 in
theorem gX5_loose_X3_spread : GoodIn wsX5_loose (wsV RX5 162 RX3 yX3_spread wsX3_spread) := goodIn_app (goodIn_of _ (by decide +kernel)) ggX5_loose_X3_spread
theorem dX5_loose_0 : decode cX5_loose 0 = .ok (.iconst (-1), 1) := by decide +kernel
theorem dX5_loose_1 : decode cX5_loose 1 = .ok (.istore_n 1, 1) := by decide +kernel
theorem dX5_loose_2 : decode cX5_loose 2 = .ok (.iconst 0, 1) := by decide +kernel
theorem dX5_loose_3 : decode cX5_loose 3 = .ok (.istore_n 2, 1) := by decide +kernel
theorem dX5_loose_4 : decode cX5_loose 4 = .ok (.iload_n 2, 1) := by decide +kernel
theorem dX5_loose_5 : decode cX5_loose 5 = .ok (.aload_n 0, 1) := by decide +kernel
theorem dX5_loose_6 : decode cX5_loose 6 = .ok (.getfield 33, 3) := by decide +kernel
theorem dX5_loose_9 : decode cX5_loose 9 = .ok (.getfield 159, 3) := by decide +kernel
theorem dX5_loose_12 : decode cX5_loose 12 = .ok (.if_icmp .ge 22, 3) := by decide +kernel
theorem dX5_loose_15 : decode cX5_loose 15 = .ok (.iload_n 1, 1) := by decide +kernel
theorem dX5_loose_16 : decode cX5_loose 16 = .ok (.aload_n 0, 1) := by decide +kernel
theorem dX5_loose_17 : decode cX5_loose 17 = .ok (.getfield 33, 3) := by decide +kernel
theorem dX5_loose_20 : decode cX5_loose 20 = .ok (.iload_n 2, 1) := by decide +kernel
theorem dX5_loose_21 : decode cX5_loose 21 = .ok (.invokevirtual 162, 3) := by decide +kernel
theorem dX5_loose_24 : decode cX5_loose 24 = .ok (.invokestatic 165, 3) := by decide +kernel
theorem dX5_loose_27 : decode cX5_loose 27 = .ok (.istore_n 1, 1) := by decide +kernel
theorem dX5_loose_28 : decode cX5_loose 28 = .ok (.iinc 2 1, 3) := by decide +kernel
theorem dX5_loose_31 : decode cX5_loose 31 = .ok (.goto (-27), 3) := by decide +kernel
theorem dX5_loose_34 : decode cX5_loose 34 = .ok (.iload_n 1, 1) := by decide +kernel
theorem dX5_loose_35 : decode cX5_loose 35 = .ok (.ireturn, 1) := by decide +kernel
set_option maxRecDepth 20000 in
theorem ggX5_measure_X2_has : GoodIn wsX5_measure wsX2_has := goodIn_r _ [10, 11, 21, 22, 23, 24, 25, 26, 27, 28, 29] (by decide +kernel) (by decide +kernel)
set_option maxRecDepth 20000 in
theorem gX5_measure_X2_has : GoodIn wsX5_measure (wsV RX5 56 RX2 yX2_has wsX2_has) := goodIn_app (goodIn_of _ (by decide +kernel)) ggX5_measure_X2_has
set_option maxRecDepth 20000 in
theorem ggX5_measure_X5_isOutside : GoodIn wsX5_measure wsX5_isOutside := goodIn_r _ [15] (by decide +kernel) (by decide +kernel)
set_option maxRecDepth 20000 in
theorem gX5_measure_X5_isOutside : GoodIn wsX5_measure (va_wsS RX5 44 yX5_isOutside wsX5_isOutside) := goodIn_app (goodIn_of _ (by decide +kernel)) ggX5_measure_X5_isOutside
theorem dX5_measure_0 : decode cX5_measure 0 = .ok (.aload_n 0, 1) := by decide +kernel
theorem dX5_measure_1 : decode cX5_measure 1 = .ok (.getfield 10, 3) := by decide +kernel
theorem dX5_measure_4 : decode cX5_measure 4 = .ok (.iload_n 1, 1) := by decide +kernel
theorem dX5_measure_5 : decode cX5_measure 5 = .ok (.invokevirtual 56, 3) := by decide +kernel
theorem dX5_measure_8 : decode cX5_measure 8 = .ok (.ifCond .ne 6, 3) := by decide +kernel
theorem dX5_measure_11 : decode cX5_measure 11 = .ok (.bipush (-101), 2) := by decide +kernel
theorem dX5_measure_13 : decode cX5_measure 13 = .ok (.ireturn, 1) := by decide +kernel
theorem dX5_measure_14 : decode cX5_measure 14 = .ok (.iload_n 2, 1) := by decide +kernel
theorem dX5_measure_15 : decode cX5_measure 15 = .ok (.ldc 77, 2) := by decide +kernel
theorem dX5_measure_17 : decode cX5_measure 17 = .ok (.ldc 78, 2) := by decide +kernel
theorem dX5_measure_19 : decode cX5_measure 19 = .ok (.invokestatic 44, 3) := by decide +kernel
theorem dX5_measure_22 : decode cX5_measure 22 = .ok (.ifCond .eq 6, 3) := by decide +kernel
theorem dX5_measure_25 : decode cX5_measure 25 = .ok (.bipush (-102), 2) := by decide +kernel
theorem dX5_measure_27 : decode cX5_measure 27 = .ok (.ireturn, 1) := by decide +kernel
theorem dX5_measure_28 : decode cX5_measure 28 = .ok (.aload_n 0, 1) := by decide +kernel
theorem dX5_measure_29 : decode cX5_measure 29 = .ok (.getfield 10, 3) := by decide +kernel
theorem dX5_measure_32 : decode cX5_measure 32 = .ok (.getfield 170, 3) := by decide +kernel
theorem dX5_measure_35 : decode cX5_measure 35 = .ok (.iload_n 1, 1) := by decide +kernel
theorem dX5_measure_36 : decode cX5_measure 36 = .ok (.baload, 1) := by decide +kernel
theorem dX5_measure_37 : decode cX5_measure 37 = .ok (.istore 4, 2) := by decide +kernel
theorem dX5_measure_39 : decode cX5_measure 39 = .ok (.aload_n 0, 1) := by decide +kernel
theorem dX5_measure_40 : decode cX5_measure 40 = .ok (.getfield 10, 3) := by decide +kernel
theorem dX5_measure_43 : decode cX5_measure 43 = .ok (.getfield 170, 3) := by decide +kernel
theorem dX5_measure_46 : decode cX5_measure 46 = .ok (.iload_n 1, 1) := by decide +kernel
theorem dX5_measure_47 : decode cX5_measure 47 = .ok (.iload_n 3, 1) := by decide +kernel
theorem dX5_measure_48 : decode cX5_measure 48 = .ok (.bastore, 1) := by decide +kernel
theorem dX5_measure_49 : decode cX5_measure 49 = .ok (.aload_n 0, 1) := by decide +kernel
theorem dX5_measure_50 : decode cX5_measure 50 = .ok (.getfield 10, 3) := by decide +kernel
theorem dX5_measure_53 : decode cX5_measure 53 = .ok (.getfield 173, 3) := by decide +kernel
theorem dX5_measure_56 : decode cX5_measure 56 = .ok (.iload_n 1, 1) := by decide +kernel
theorem dX5_measure_57 : decode cX5_measure 57 = .ok (.iload_n 3, 1) := by decide +kernel
theorem dX5_measure_58 : decode cX5_measure 58 = .ok (.ifCond .eq 7, 3) := by decide +kernel
theorem dX5_measure_61 : decode cX5_measure 61 = .ok (.iload_n 2, 1) := by decide +kernel
theorem dX5_measure_62 : decode cX5_measure 62 = .ok (.goto 4, 3) := by decide +kernel
theorem dX5_measure_65 : decode cX5_measure 65 = .ok (.iconst 0, 1) := by decide +kernel
theorem dX5_measure_66 : decode cX5_measure 66 = .ok (.iastore, 1) := by decide +kernel
theorem dX5_measure_67 : decode cX5_measure 67 = .ok (.iload 4, 2) := by decide +kernel
theorem dX5_measure_69 : decode cX5_measure 69 = .ok (.ifCond .eq 7, 3) := by decide +kernel
theorem dX5_measure_72 : decode cX5_measure 72 = .ok (.iconst 1, 1) := by decide +kernel
theorem dX5_measure_73 : decode cX5_measure 73 = .ok (.goto 4, 3) := by decide +kernel
theorem dX5_measure_76 : decode cX5_measure 76 = .ok (.iconst 0, 1) := by decide +kernel
theorem dX5_measure_77 : decode cX5_measure 77 = .ok (.ireturn, 1) := by decide +kernel
set_option maxRecDepth 20000 in
theorem ggX5_faults_X2_isAnythingOff : GoodIn wsX5_faults wsX2_isAnythingOff := goodIn_r _ [6, 7, 8, 9, 10, 5, 11, 12, 13, 14, 42, 43, 44, 45, 46, 47, 48, 49, 50] (by decide +kernel) (by decide +kernel)
set_option maxRecDepth 20000 in
theorem gX5_faults_X2_isAnythingOff : GoodIn wsX5_faults (wsV RX5 176 RX2 yX2_isAnythingOff wsX2_isAnythingOff) := goodIn_app (goodIn_of _ (by decide +kernel)) ggX5_faults_X2_isAnythingOff
set_option maxRecDepth 20000 in
theorem ggX5_faults_X2_countFaults : GoodIn wsX5_faults wsX2_countFaults := goodIn_r _ [18, 7, 19, 20, 21, 5, 22, 12, 23, 24, 25, 26, 8, 9, 10, 11, 13, 14, 27, 28, 29, 30, 31, 32, 33, 34, 35, 36, 42, 43, 44, 45, 46, 47, 48, 49, 50] (by decide +kernel) (by decide +kernel)
set_option maxRecDepth 20000 in
theorem gX5_faults_X2_countFaults : GoodIn wsX5_faults (wsV RX5 179 RX2 yX2_countFaults wsX2_countFaults) := goodIn_app (goodIn_of _ (by decide +kernel)) ggX5_faults_X2_countFaults
theorem dX5_faults_0 : decode cX5_faults 0 = .ok (.aload_n 0, 1) := by decide +kernel
theorem dX5_faults_1 : decode cX5_faults 1 = .ok (.getfield 10, 3) := by decide +kernel
theorem dX5_faults_4 : decode cX5_faults 4 = .ok (.invokevirtual 176, 3) := by decide +kernel
theorem dX5_faults_7 : decode cX5_faults 7 = .ok (.ifCond .eq 13, 3) := by decide +kernel
theorem dX5_faults_10 : decode cX5_faults 10 = .ok (.aload_n 0, 1) := by decide +kernel
theorem dX5_faults_11 : decode cX5_faults 11 = .ok (.getfield 10, 3) := by decide +kernel
theorem dX5_faults_14 : decode cX5_faults 14 = .ok (.invokevirtual 179, 3) := by decide +kernel
theorem dX5_faults_17 : decode cX5_faults 17 = .ok (.goto 4, 3) := by decide +kernel
theorem dX5_faults_20 : decode cX5_faults 20 = .ok (.iconst (-1), 1) := by decide +kernel
theorem dX5_faults_21 : decode cX5_faults 21 = .ok (.ireturn, 1) := by decide +kernel
set_option maxRecDepth 20000 in
theorem ggX5_fault_X2_elementOfFault : GoodIn wsX5_fault wsX2_elementOfFault := goodIn_r _ [6, 7, 8, 9, 10, 5, 11, 12, 13, 14, 15, 16, 17, 18, 19, 20, 21, 22, 23, 24, 25, 26, 27, 28, 29, 30, 31, 32, 38, 39, 40, 41, 42, 43, 44, 45, 46] (by decide +kernel) (by decide +kernel)
set_option maxRecDepth 20000 in
theorem gX5_fault_X2_elementOfFault : GoodIn wsX5_fault (wsV RX5 182 RX2 yX2_elementOfFault wsX2_elementOfFault) := goodIn_app (goodIn_of _ (by decide +kernel)) ggX5_fault_X2_elementOfFault
theorem dX5_fault_0 : decode cX5_fault 0 = .ok (.aload_n 0, 1) := by decide +kernel
theorem dX5_fault_1 : decode cX5_fault 1 = .ok (.getfield 10, 3) := by decide +kernel
theorem dX5_fault_4 : decode cX5_fault 4 = .ok (.iload_n 1, 1) := by decide +kernel
theorem dX5_fault_5 : decode cX5_fault 5 = .ok (.invokevirtual 182, 3) := by decide +kernel
theorem dX5_fault_8 : decode cX5_fault 8 = .ok (.ireturn, 1) := by decide +kernel
set_option maxRecDepth 20000 in
theorem ggX5_by_X2_elementOfFault : GoodIn wsX5_by wsX2_elementOfFault := goodIn_r _ [6, 7, 8, 9, 10, 5, 11, 12, 13, 14, 15, 16, 17, 18, 19, 20, 21, 22, 23, 24, 25, 26, 27, 28, 29, 30, 31, 32, 39, 40, 41, 42, 43, 44, 45, 46, 47] (by decide +kernel) (by decide +kernel)
set_option maxRecDepth 20000 in
theorem gX5_by_X2_elementOfFault : GoodIn wsX5_by (wsV RX5 182 RX2 yX2_elementOfFault wsX2_elementOfFault) := goodIn_app (goodIn_of _ (by decide +kernel)) ggX5_by_X2_elementOfFault
set_option maxRecDepth 20000 in
theorem ggX5_by_X2_faultOf : GoodIn wsX5_by wsX2_faultOf := goodIn_r _ [11, 7, 12, 13, 14, 15, 5, 16, 17, 18, 19, 20, 21, 22, 23, 24, 25, 26, 27, 28, 29, 30, 31, 32, 39, 40, 41, 42, 43, 44, 45, 46, 47] (by decide +kernel) (by decide +kernel)
set_option maxRecDepth 20000 in
theorem gX5_by_X2_faultOf : GoodIn wsX5_by (wsV RX5 185 RX2 yX2_faultOf wsX2_faultOf) := goodIn_app (goodIn_of _ (by decide +kernel)) ggX5_by_X2_faultOf
theorem dX5_by_0 : decode cX5_by 0 = .ok (.aload_n 0, 1) := by decide +kernel
theorem dX5_by_1 : decode cX5_by 1 = .ok (.getfield 10, 3) := by decide +kernel
theorem dX5_by_4 : decode cX5_by 4 = .ok (.iload_n 1, 1) := by decide +kernel
theorem dX5_by_5 : decode cX5_by 5 = .ok (.invokevirtual 182, 3) := by decide +kernel
theorem dX5_by_8 : decode cX5_by 8 = .ok (.istore_n 2, 1) := by decide +kernel
theorem dX5_by_9 : decode cX5_by 9 = .ok (.iload_n 2, 1) := by decide +kernel
theorem dX5_by_10 : decode cX5_by 10 = .ok (.iconst (-1), 1) := by decide +kernel
theorem dX5_by_11 : decode cX5_by 11 = .ok (.if_icmp .ne 7, 3) := by decide +kernel
theorem dX5_by_14 : decode cX5_by 14 = .ok (.iconst 0, 1) := by decide +kernel
theorem dX5_by_15 : decode cX5_by 15 = .ok (.goto 11, 3) := by decide +kernel
theorem dX5_by_18 : decode cX5_by 18 = .ok (.aload_n 0, 1) := by decide +kernel
theorem dX5_by_19 : decode cX5_by 19 = .ok (.getfield 10, 3) := by decide +kernel
theorem dX5_by_22 : decode cX5_by 22 = .ok (.iload_n 2, 1) := by decide +kernel
theorem dX5_by_23 : decode cX5_by 23 = .ok (.invokevirtual 185, 3) := by decide +kernel
theorem dX5_by_26 : decode cX5_by 26 = .ok (.ireturn, 1) := by decide +kernel
set_option maxRecDepth 20000 in
theorem ggX5_limit_X2_has : GoodIn wsX5_limit wsX2_has := goodIn_r _ [8, 9, 19, 20, 21, 22, 23, 24, 25, 26, 27] (by decide +kernel) (by decide +kernel)
set_option maxRecDepth 20000 in
theorem gX5_limit_X2_has : GoodIn wsX5_limit (wsV RX5 56 RX2 yX2_has wsX2_has) := goodIn_app (goodIn_of _ (by decide +kernel)) ggX5_limit_X2_has
set_option maxRecDepth 20000 in
theorem ggX5_limit_X5_isOutside : GoodIn wsX5_limit wsX5_isOutside := goodIn_r _ [13] (by decide +kernel) (by decide +kernel)
set_option maxRecDepth 20000 in
theorem gX5_limit_X5_isOutside : GoodIn wsX5_limit (va_wsS RX5 44 yX5_isOutside wsX5_isOutside) := goodIn_app (goodIn_of _ (by decide +kernel)) ggX5_limit_X5_isOutside
theorem dX5_limit_0 : decode cX5_limit 0 = .ok (.aload_n 0, 1) := by decide +kernel
theorem dX5_limit_1 : decode cX5_limit 1 = .ok (.getfield 10, 3) := by decide +kernel
theorem dX5_limit_4 : decode cX5_limit 4 = .ok (.iload_n 1, 1) := by decide +kernel
theorem dX5_limit_5 : decode cX5_limit 5 = .ok (.invokevirtual 56, 3) := by decide +kernel
theorem dX5_limit_8 : decode cX5_limit 8 = .ok (.ifCond .ne 6, 3) := by decide +kernel
theorem dX5_limit_11 : decode cX5_limit 11 = .ok (.bipush (-101), 2) := by decide +kernel
theorem dX5_limit_13 : decode cX5_limit 13 = .ok (.ireturn, 1) := by decide +kernel
theorem dX5_limit_14 : decode cX5_limit 14 = .ok (.iload_n 2, 1) := by decide +kernel
theorem dX5_limit_15 : decode cX5_limit 15 = .ok (.iconst 0, 1) := by decide +kernel
theorem dX5_limit_16 : decode cX5_limit 16 = .ok (.ldc 188, 2) := by decide +kernel
theorem dX5_limit_18 : decode cX5_limit 18 = .ok (.invokestatic 44, 3) := by decide +kernel
theorem dX5_limit_21 : decode cX5_limit 21 = .ok (.ifCond .eq 6, 3) := by decide +kernel
theorem dX5_limit_24 : decode cX5_limit 24 = .ok (.bipush (-102), 2) := by decide +kernel
theorem dX5_limit_26 : decode cX5_limit 26 = .ok (.ireturn, 1) := by decide +kernel
theorem dX5_limit_27 : decode cX5_limit 27 = .ok (.aload_n 0, 1) := by decide +kernel
theorem dX5_limit_28 : decode cX5_limit 28 = .ok (.getfield 10, 3) := by decide +kernel
theorem dX5_limit_31 : decode cX5_limit 31 = .ok (.getfield 189, 3) := by decide +kernel
theorem dX5_limit_34 : decode cX5_limit 34 = .ok (.iload_n 1, 1) := by decide +kernel
theorem dX5_limit_35 : decode cX5_limit 35 = .ok (.iaload, 1) := by decide +kernel
theorem dX5_limit_36 : decode cX5_limit 36 = .ok (.istore_n 3, 1) := by decide +kernel
theorem dX5_limit_37 : decode cX5_limit 37 = .ok (.aload_n 0, 1) := by decide +kernel
theorem dX5_limit_38 : decode cX5_limit 38 = .ok (.getfield 10, 3) := by decide +kernel
theorem dX5_limit_41 : decode cX5_limit 41 = .ok (.getfield 189, 3) := by decide +kernel
theorem dX5_limit_44 : decode cX5_limit 44 = .ok (.iload_n 1, 1) := by decide +kernel
theorem dX5_limit_45 : decode cX5_limit 45 = .ok (.iload_n 2, 1) := by decide +kernel
theorem dX5_limit_46 : decode cX5_limit 46 = .ok (.iastore, 1) := by decide +kernel
theorem dX5_limit_47 : decode cX5_limit 47 = .ok (.iload_n 3, 1) := by decide +kernel
theorem dX5_limit_48 : decode cX5_limit 48 = .ok (.ireturn, 1) := by decide +kernel
theorem dX5_broken_0 : decode cX5_broken 0 = .ok (.iconst 0, 1) := by decide +kernel
theorem dX5_broken_1 : decode cX5_broken 1 = .ok (.istore_n 1, 1) := by decide +kernel
theorem dX5_broken_2 : decode cX5_broken 2 = .ok (.iload_n 1, 1) := by decide +kernel
theorem dX5_broken_3 : decode cX5_broken 3 = .ok (.aload_n 0, 1) := by decide +kernel
theorem dX5_broken_4 : decode cX5_broken 4 = .ok (.getfield 10, 3) := by decide +kernel
theorem dX5_broken_7 : decode cX5_broken 7 = .ok (.getfield 52, 3) := by decide +kernel
theorem dX5_broken_10 : decode cX5_broken 10 = .ok (.if_icmp .ge 35, 3) := by decide +kernel
theorem dX5_broken_13 : decode cX5_broken 13 = .ok (.aload_n 0, 1) := by decide +kernel
theorem dX5_broken_14 : decode cX5_broken 14 = .ok (.getfield 10, 3) := by decide +kernel
theorem dX5_broken_17 : decode cX5_broken 17 = .ok (.getfield 68, 3) := by decide +kernel
theorem dX5_broken_20 : decode cX5_broken 20 = .ok (.iload_n 1, 1) := by decide +kernel
theorem dX5_broken_21 : decode cX5_broken 21 = .ok (.iaload, 1) := by decide +kernel
theorem dX5_broken_22 : decode cX5_broken 22 = .ok (.invokestatic 192, 3) := by decide +kernel
theorem dX5_broken_25 : decode cX5_broken 25 = .ok (.aload_n 0, 1) := by decide +kernel
theorem dX5_broken_26 : decode cX5_broken 26 = .ok (.getfield 10, 3) := by decide +kernel
theorem dX5_broken_29 : decode cX5_broken 29 = .ok (.getfield 189, 3) := by decide +kernel
theorem dX5_broken_32 : decode cX5_broken 32 = .ok (.iload_n 1, 1) := by decide +kernel
theorem dX5_broken_33 : decode cX5_broken 33 = .ok (.iaload, 1) := by decide +kernel
theorem dX5_broken_34 : decode cX5_broken 34 = .ok (.if_icmp .le 5, 3) := by decide +kernel
theorem dX5_broken_37 : decode cX5_broken 37 = .ok (.iload_n 1, 1) := by decide +kernel
theorem dX5_broken_38 : decode cX5_broken 38 = .ok (.ireturn, 1) := by decide +kernel
theorem dX5_broken_39 : decode cX5_broken 39 = .ok (.iinc 1 1, 3) := by decide +kernel
theorem dX5_broken_42 : decode cX5_broken 42 = .ok (.goto (-40), 3) := by decide +kernel
theorem dX5_broken_45 : decode cX5_broken 45 = .ok (.iconst (-1), 1) := by decide +kernel
theorem dX5_broken_46 : decode cX5_broken 46 = .ok (.ireturn, 1) := by decide +kernel
set_option maxRecDepth 20000 in
theorem ggX5_doubt_X5_isOutside : GoodIn wsX5_doubt wsX5_isOutside := goodIn_r _ [6] (by decide +kernel) (by decide +kernel)
set_option maxRecDepth 20000 in
theorem gX5_doubt_X5_isOutside : GoodIn wsX5_doubt (va_wsS RX5 44 yX5_isOutside wsX5_isOutside) := goodIn_app (goodIn_of _ (by decide +kernel)) ggX5_doubt_X5_isOutside
set_option maxRecDepth 20000 in
theorem ggX5_doubt_X0_add : GoodIn wsX5_doubt wsX0_add := goodIn_r _ [11, 12, 13, 19, 20] (by decide +kernel) (by decide +kernel)
set_option maxRecDepth 20000 in
theorem gX5_doubt_X0_add : GoodIn wsX5_doubt (wsV RX5 198 RX0 yX0_add wsX0_add) := goodIn_app (goodIn_of _ (by decide +kernel)) ggX5_doubt_X0_add
theorem dX5_doubt_0 : decode cX5_doubt 0 = .ok (.iload_n 1, 1) := by decide +kernel
theorem dX5_doubt_1 : decode cX5_doubt 1 = .ok (.iconst 0, 1) := by decide +kernel
theorem dX5_doubt_2 : decode cX5_doubt 2 = .ok (.sipush 10000, 3) := by decide +kernel
theorem dX5_doubt_5 : decode cX5_doubt 5 = .ok (.invokestatic 44, 3) := by decide +kernel
theorem dX5_doubt_8 : decode cX5_doubt 8 = .ok (.ifCond .eq 6, 3) := by decide +kernel
theorem dX5_doubt_11 : decode cX5_doubt 11 = .ok (.bipush (-102), 2) := by decide +kernel
theorem dX5_doubt_13 : decode cX5_doubt 13 = .ok (.ireturn, 1) := by decide +kernel
theorem dX5_doubt_14 : decode cX5_doubt 14 = .ok (.aload_n 0, 1) := by decide +kernel
theorem dX5_doubt_15 : decode cX5_doubt 15 = .ok (.getfield 40, 3) := by decide +kernel
theorem dX5_doubt_18 : decode cX5_doubt 18 = .ok (.getfield 195, 3) := by decide +kernel
theorem dX5_doubt_21 : decode cX5_doubt 21 = .ok (.bipush 18, 2) := by decide +kernel
theorem dX5_doubt_23 : decode cX5_doubt 23 = .ok (.if_icmp .lt 6, 3) := by decide +kernel
theorem dX5_doubt_26 : decode cX5_doubt 26 = .ok (.bipush (-104), 2) := by decide +kernel
theorem dX5_doubt_28 : decode cX5_doubt 28 = .ok (.ireturn, 1) := by decide +kernel
theorem dX5_doubt_29 : decode cX5_doubt 29 = .ok (.aload_n 0, 1) := by decide +kernel
theorem dX5_doubt_30 : decode cX5_doubt 30 = .ok (.getfield 40, 3) := by decide +kernel
theorem dX5_doubt_33 : decode cX5_doubt 33 = .ok (.iload_n 1, 1) := by decide +kernel
theorem dX5_doubt_34 : decode cX5_doubt 34 = .ok (.invokevirtual 198, 3) := by decide +kernel
theorem dX5_doubt_37 : decode cX5_doubt 37 = .ok (.aload_n 0, 1) := by decide +kernel
theorem dX5_doubt_38 : decode cX5_doubt 38 = .ok (.getfield 40, 3) := by decide +kernel
theorem dX5_doubt_41 : decode cX5_doubt 41 = .ok (.getfield 195, 3) := by decide +kernel
theorem dX5_doubt_44 : decode cX5_doubt 44 = .ok (.ireturn, 1) := by decide +kernel
set_option maxRecDepth 20000 in
theorem ggX5_budget_X0_sum : GoodIn wsX5_budget wsX0_sum := goodIn_r _ [6, 7, 8, 30, 31] (by decide +kernel) (by decide +kernel)
set_option maxRecDepth 20000 in
theorem gX5_budget_X0_sum : GoodIn wsX5_budget (wsV RX5 201 RX0 yX0_sum wsX0_sum) := goodIn_app (goodIn_of _ (by decide +kernel)) ggX5_budget_X0_sum
set_option maxRecDepth 20000 in
theorem ggX5_budget_X0_squares : GoodIn wsX5_budget wsX0_squares := goodIn_r _ [12, 7, 8, 30, 31] (by decide +kernel) (by decide +kernel)
set_option maxRecDepth 20000 in
theorem gX5_budget_X0_squares : GoodIn wsX5_budget (wsV RX5 204 RX0 yX0_squares wsX0_squares) := goodIn_app (goodIn_of _ (by decide +kernel)) ggX5_budget_X0_squares
set_option maxRecDepth 20000 in
theorem ggX5_budget_X5_rootUp : GoodIn wsX5_budget wsX5_rootUp := goodIn_r _ [16] (by decide +kernel) (by decide +kernel)
set_option maxRecDepth 20000 in
theorem gX5_budget_X5_rootUp : GoodIn wsX5_budget (va_wsS RX5 208 yX5_rootUp wsX5_rootUp) := goodIn_app (goodIn_of _ (by decide +kernel)) ggX5_budget_X5_rootUp
set_option maxRecDepth 20000 in
theorem ggX5_budget_X0_greatest : GoodIn wsX5_budget wsX0_greatest := goodIn_r _ [20, 7, 8, 21, 22, 23, 24, 30, 31] (by decide +kernel) (by decide +kernel)
set_option maxRecDepth 20000 in
theorem gX5_budget_X0_greatest : GoodIn wsX5_budget (wsV RX5 212 RX0 yX0_greatest wsX0_greatest) := goodIn_app (goodIn_of _ (by decide +kernel)) ggX5_budget_X0_greatest
theorem dX5_budget_0 : decode cX5_budget 0 = .ok (.iload_n 1, 1) := by decide +kernel
theorem dX5_budget_1 : decode cX5_budget 1 = .ok (.tableswitch 54 0 2 #[27, 35, 46], 27) := by decide +kernel
theorem dX5_budget_28 : decode cX5_budget 28 = .ok (.aload_n 0, 1) := by decide +kernel
theorem dX5_budget_29 : decode cX5_budget 29 = .ok (.getfield 40, 3) := by decide +kernel
theorem dX5_budget_32 : decode cX5_budget 32 = .ok (.invokevirtual 201, 3) := by decide +kernel
theorem dX5_budget_35 : decode cX5_budget 35 = .ok (.ireturn, 1) := by decide +kernel
theorem dX5_budget_36 : decode cX5_budget 36 = .ok (.aload_n 0, 1) := by decide +kernel
theorem dX5_budget_37 : decode cX5_budget 37 = .ok (.getfield 40, 3) := by decide +kernel
theorem dX5_budget_40 : decode cX5_budget 40 = .ok (.invokevirtual 204, 3) := by decide +kernel
theorem dX5_budget_43 : decode cX5_budget 43 = .ok (.invokestatic 208, 3) := by decide +kernel
theorem dX5_budget_46 : decode cX5_budget 46 = .ok (.ireturn, 1) := by decide +kernel
theorem dX5_budget_47 : decode cX5_budget 47 = .ok (.aload_n 0, 1) := by decide +kernel
theorem dX5_budget_48 : decode cX5_budget 48 = .ok (.getfield 40, 3) := by decide +kernel
theorem dX5_budget_51 : decode cX5_budget 51 = .ok (.invokevirtual 212, 3) := by decide +kernel
theorem dX5_budget_54 : decode cX5_budget 54 = .ok (.ireturn, 1) := by decide +kernel
theorem dX5_budget_55 : decode cX5_budget 55 = .ok (.bipush (-102), 2) := by decide +kernel
theorem dX5_budget_57 : decode cX5_budget 57 = .ok (.ireturn, 1) := by decide +kernel
theorem dX5_sure_0 : decode cX5_sure 0 = .ok (.aload_n 0, 1) := by decide +kernel
theorem dX5_sure_1 : decode cX5_sure 1 = .ok (.getfield 40, 3) := by decide +kernel
theorem dX5_sure_4 : decode cX5_sure 4 = .ok (.getfield 195, 3) := by decide +kernel
theorem dX5_sure_7 : decode cX5_sure 7 = .ok (.istore_n 1, 1) := by decide +kernel
theorem dX5_sure_8 : decode cX5_sure 8 = .ok (.aload_n 0, 1) := by decide +kernel
theorem dX5_sure_9 : decode cX5_sure 9 = .ok (.getfield 40, 3) := by decide +kernel
theorem dX5_sure_12 : decode cX5_sure 12 = .ok (.iconst 0, 1) := by decide +kernel
theorem dX5_sure_13 : decode cX5_sure 13 = .ok (.putfield 195, 3) := by decide +kernel
theorem dX5_sure_16 : decode cX5_sure 16 = .ok (.iload_n 1, 1) := by decide +kernel
theorem dX5_sure_17 : decode cX5_sure 17 = .ok (.ireturn, 1) := by decide +kernel
set_option maxRecDepth 20000 in
theorem ggX5_count_X2_countLost : GoodIn wsX5_count wsX2_countLost := goodIn_r _ [14, 15, 16, 17, 13, 18, 36, 37, 38, 39, 40, 41, 42, 43, 44] (by decide +kernel) (by decide +kernel)
set_option maxRecDepth 20000 in
theorem gX5_count_X2_countLost : GoodIn wsX5_count (wsV RX5 107 RX2 yX2_countLost wsX2_countLost) := goodIn_app (goodIn_of _ (by decide +kernel)) ggX5_count_X2_countLost
set_option maxRecDepth 20000 in
theorem ggX5_count_X2_countMeasured : GoodIn wsX5_count wsX2_countMeasured := goodIn_r _ [22, 23, 16, 17, 13, 18, 36, 37, 38, 39, 40, 41, 42, 43, 44] (by decide +kernel) (by decide +kernel)
set_option maxRecDepth 20000 in
theorem gX5_count_X2_countMeasured : GoodIn wsX5_count (wsV RX5 215 RX2 yX2_countMeasured wsX2_countMeasured) := goodIn_app (goodIn_of _ (by decide +kernel)) ggX5_count_X2_countMeasured
set_option maxRecDepth 20000 in
theorem ggX5_count_X3_countKnown : GoodIn wsX5_count wsX3_countKnown := goodIn_r _ [28, 29, 30, 48, 49, 50] (by decide +kernel) (by decide +kernel)
set_option maxRecDepth 20000 in
theorem gX5_count_X3_countKnown : GoodIn wsX5_count (wsV RX5 218 RX3 yX3_countKnown wsX3_countKnown) := goodIn_app (goodIn_of _ (by decide +kernel)) ggX5_count_X3_countKnown
theorem dX5_count_0 : decode cX5_count 0 = .ok (.iload_n 1, 1) := by decide +kernel
theorem dX5_count_1 : decode cX5_count 1 = .ok (.tableswitch 111 0 7 #[47, 55, 63, 71, 79, 87, 95, 103], 47) := by decide +kernel
theorem dX5_count_48 : decode cX5_count 48 = .ok (.aload_n 0, 1) := by decide +kernel
theorem dX5_count_49 : decode cX5_count 49 = .ok (.getfield 10, 3) := by decide +kernel
theorem dX5_count_52 : decode cX5_count 52 = .ok (.getfield 52, 3) := by decide +kernel
theorem dX5_count_55 : decode cX5_count 55 = .ok (.ireturn, 1) := by decide +kernel
theorem dX5_count_56 : decode cX5_count 56 = .ok (.aload_n 0, 1) := by decide +kernel
theorem dX5_count_57 : decode cX5_count 57 = .ok (.getfield 10, 3) := by decide +kernel
theorem dX5_count_60 : decode cX5_count 60 = .ok (.invokevirtual 107, 3) := by decide +kernel
theorem dX5_count_63 : decode cX5_count 63 = .ok (.ireturn, 1) := by decide +kernel
theorem dX5_count_64 : decode cX5_count 64 = .ok (.aload_n 0, 1) := by decide +kernel
theorem dX5_count_65 : decode cX5_count 65 = .ok (.getfield 10, 3) := by decide +kernel
theorem dX5_count_68 : decode cX5_count 68 = .ok (.invokevirtual 215, 3) := by decide +kernel
theorem dX5_count_71 : decode cX5_count 71 = .ok (.ireturn, 1) := by decide +kernel
theorem dX5_count_72 : decode cX5_count 72 = .ok (.aload_n 0, 1) := by decide +kernel
theorem dX5_count_73 : decode cX5_count 73 = .ok (.getfield 26, 3) := by decide +kernel
theorem dX5_count_76 : decode cX5_count 76 = .ok (.getfield 133, 3) := by decide +kernel
theorem dX5_count_79 : decode cX5_count 79 = .ok (.ireturn, 1) := by decide +kernel
theorem dX5_count_80 : decode cX5_count 80 = .ok (.aload_n 0, 1) := by decide +kernel
theorem dX5_count_81 : decode cX5_count 81 = .ok (.getfield 26, 3) := by decide +kernel
theorem dX5_count_84 : decode cX5_count 84 = .ok (.getfield 136, 3) := by decide +kernel
theorem dX5_count_87 : decode cX5_count 87 = .ok (.ireturn, 1) := by decide +kernel
theorem dX5_count_88 : decode cX5_count 88 = .ok (.aload_n 0, 1) := by decide +kernel
theorem dX5_count_89 : decode cX5_count 89 = .ok (.getfield 33, 3) := by decide +kernel
theorem dX5_count_92 : decode cX5_count 92 = .ok (.getfield 159, 3) := by decide +kernel
theorem dX5_count_95 : decode cX5_count 95 = .ok (.ireturn, 1) := by decide +kernel
theorem dX5_count_96 : decode cX5_count 96 = .ok (.aload_n 0, 1) := by decide +kernel
theorem dX5_count_97 : decode cX5_count 97 = .ok (.getfield 33, 3) := by decide +kernel
theorem dX5_count_100 : decode cX5_count 100 = .ok (.invokevirtual 218, 3) := by decide +kernel
theorem dX5_count_103 : decode cX5_count 103 = .ok (.ireturn, 1) := by decide +kernel
theorem dX5_count_104 : decode cX5_count 104 = .ok (.aload_n 0, 1) := by decide +kernel
theorem dX5_count_105 : decode cX5_count 105 = .ok (.getfield 40, 3) := by decide +kernel
theorem dX5_count_108 : decode cX5_count 108 = .ok (.getfield 195, 3) := by decide +kernel
theorem dX5_count_111 : decode cX5_count 111 = .ok (.ireturn, 1) := by decide +kernel
theorem dX5_count_112 : decode cX5_count 112 = .ok (.bipush (-102), 2) := by decide +kernel
theorem dX5_count_114 : decode cX5_count 114 = .ok (.ireturn, 1) := by decide +kernel
set_option maxRecDepth 20000 in
theorem ggX5_digest_X2_foldInto : GoodIn wsX5_digest wsX2_foldInto := goodIn_r _ [10, 11, 12, 13, 14, 15, 16, 17, 18, 19, 20, 21, 22, 23, 24, 25, 54, 55, 56, 57, 58, 59, 60, 61, 62] (by decide +kernel) (by decide +kernel)
set_option maxRecDepth 20000 in
theorem gX5_digest_X2_foldInto : GoodIn wsX5_digest (wsV RX5 223 RX2 yX2_foldInto wsX2_foldInto) := goodIn_app (goodIn_of _ (by decide +kernel)) ggX5_digest_X2_foldInto
set_option maxRecDepth 20000 in
theorem ggX5_digest_X4_foldInto : GoodIn wsX5_digest wsX4_foldInto := goodIn_r _ [30, 31, 32, 33, 19, 20, 21, 22, 63, 64, 65] (by decide +kernel) (by decide +kernel)
set_option maxRecDepth 20000 in
theorem gX5_digest_X4_foldInto : GoodIn wsX5_digest (wsV RX5 227 RX4 yX4_foldInto wsX4_foldInto) := goodIn_app (goodIn_of _ (by decide +kernel)) ggX5_digest_X4_foldInto
set_option maxRecDepth 20000 in
theorem ggX5_digest_X3_foldInto : GoodIn wsX5_digest wsX3_foldInto := goodIn_r _ [38, 39, 40, 41, 19, 20, 21, 22, 23, 24, 25, 66, 67, 68] (by decide +kernel) (by decide +kernel)
set_option maxRecDepth 20000 in
theorem gX5_digest_X3_foldInto : GoodIn wsX5_digest (wsV RX5 228 RX3 yX3_foldInto wsX3_foldInto) := goodIn_app (goodIn_of _ (by decide +kernel)) ggX5_digest_X3_foldInto
set_option maxRecDepth 20000 in
theorem ggX5_digest_X0_foldInto : GoodIn wsX5_digest wsX0_foldInto := goodIn_r _ [46, 47, 48, 19, 20, 21, 22, 69, 70] (by decide +kernel) (by decide +kernel)
set_option maxRecDepth 20000 in
theorem gX5_digest_X0_foldInto : GoodIn wsX5_digest (wsV RX5 229 RX0 yX0_foldInto wsX0_foldInto) := goodIn_app (goodIn_of _ (by decide +kernel)) ggX5_digest_X0_foldInto
theorem dX5_digest_0 : decode cX5_digest 0 = .ok (.aload_n 0, 1) := by decide +kernel
theorem dX5_digest_1 : decode cX5_digest 1 = .ok (.getfield 10, 3) := by decide +kernel
theorem dX5_digest_4 : decode cX5_digest 4 = .ok (.ldc2_w 221, 3) := by decide +kernel
theorem dX5_digest_7 : decode cX5_digest 7 = .ok (.invokevirtual 223, 3) := by decide +kernel
theorem dX5_digest_10 : decode cX5_digest 10 = .ok (.lstore_n 1, 1) := by decide +kernel
theorem dX5_digest_11 : decode cX5_digest 11 = .ok (.aload_n 0, 1) := by decide +kernel
theorem dX5_digest_12 : decode cX5_digest 12 = .ok (.getfield 26, 3) := by decide +kernel
theorem dX5_digest_15 : decode cX5_digest 15 = .ok (.lload_n 1, 1) := by decide +kernel
theorem dX5_digest_16 : decode cX5_digest 16 = .ok (.invokevirtual 227, 3) := by decide +kernel
theorem dX5_digest_19 : decode cX5_digest 19 = .ok (.lstore_n 1, 1) := by decide +kernel
theorem dX5_digest_20 : decode cX5_digest 20 = .ok (.aload_n 0, 1) := by decide +kernel
theorem dX5_digest_21 : decode cX5_digest 21 = .ok (.getfield 33, 3) := by decide +kernel
theorem dX5_digest_24 : decode cX5_digest 24 = .ok (.lload_n 1, 1) := by decide +kernel
theorem dX5_digest_25 : decode cX5_digest 25 = .ok (.invokevirtual 228, 3) := by decide +kernel
theorem dX5_digest_28 : decode cX5_digest 28 = .ok (.lstore_n 1, 1) := by decide +kernel
theorem dX5_digest_29 : decode cX5_digest 29 = .ok (.aload_n 0, 1) := by decide +kernel
theorem dX5_digest_30 : decode cX5_digest 30 = .ok (.getfield 40, 3) := by decide +kernel
theorem dX5_digest_33 : decode cX5_digest 33 = .ok (.lload_n 1, 1) := by decide +kernel
theorem dX5_digest_34 : decode cX5_digest 34 = .ok (.invokevirtual 229, 3) := by decide +kernel
theorem dX5_digest_37 : decode cX5_digest 37 = .ok (.lreturn, 1) := by decide +kernel
theorem dX5_isOutside_0 : decode cX5_isOutside 0 = .ok (.iload_n 0, 1) := by decide +kernel
theorem dX5_isOutside_1 : decode cX5_isOutside 1 = .ok (.iload_n 1, 1) := by decide +kernel
theorem dX5_isOutside_2 : decode cX5_isOutside 2 = .ok (.if_icmp .lt 8, 3) := by decide +kernel
theorem dX5_isOutside_5 : decode cX5_isOutside 5 = .ok (.iload_n 0, 1) := by decide +kernel
theorem dX5_isOutside_6 : decode cX5_isOutside 6 = .ok (.iload_n 2, 1) := by decide +kernel
theorem dX5_isOutside_7 : decode cX5_isOutside 7 = .ok (.if_icmp .le 7, 3) := by decide +kernel
theorem dX5_isOutside_10 : decode cX5_isOutside 10 = .ok (.iconst 1, 1) := by decide +kernel
theorem dX5_isOutside_11 : decode cX5_isOutside 11 = .ok (.goto 4, 3) := by decide +kernel
theorem dX5_isOutside_14 : decode cX5_isOutside 14 = .ok (.iconst 0, 1) := by decide +kernel
theorem dX5_isOutside_15 : decode cX5_isOutside 15 = .ok (.ireturn, 1) := by decide +kernel
set_option maxRecDepth 20000 in
theorem ggX5_isGate_X5_isOutside : GoodIn wsX5_isGate wsX5_isOutside := goodIn_r _ [4] (by decide +kernel) (by decide +kernel)
set_option maxRecDepth 20000 in
theorem gX5_isGate_X5_isOutside : GoodIn wsX5_isGate (va_wsS RX5 44 yX5_isOutside wsX5_isOutside) := goodIn_app (goodIn_of _ (by decide +kernel)) ggX5_isGate_X5_isOutside
theorem dX5_isGate_0 : decode cX5_isGate 0 = .ok (.iload_n 0, 1) := by decide +kernel
theorem dX5_isGate_1 : decode cX5_isGate 1 = .ok (.iconst 0, 1) := by decide +kernel
theorem dX5_isGate_2 : decode cX5_isGate 2 = .ok (.bipush 31, 2) := by decide +kernel
theorem dX5_isGate_4 : decode cX5_isGate 4 = .ok (.invokestatic 44, 3) := by decide +kernel
theorem dX5_isGate_7 : decode cX5_isGate 7 = .ok (.ifCond .ne 17, 3) := by decide +kernel
theorem dX5_isGate_10 : decode cX5_isGate 10 = .ok (.iload_n 1, 1) := by decide +kernel
theorem dX5_isGate_11 : decode cX5_isGate 11 = .ok (.iconst 0, 1) := by decide +kernel
theorem dX5_isGate_12 : decode cX5_isGate 12 = .ok (.bipush 31, 2) := by decide +kernel
theorem dX5_isGate_14 : decode cX5_isGate 14 = .ok (.invokestatic 44, 3) := by decide +kernel
theorem dX5_isGate_17 : decode cX5_isGate 17 = .ok (.ifCond .ne 7, 3) := by decide +kernel
theorem dX5_isGate_20 : decode cX5_isGate 20 = .ok (.iconst 1, 1) := by decide +kernel
theorem dX5_isGate_21 : decode cX5_isGate 21 = .ok (.goto 4, 3) := by decide +kernel
theorem dX5_isGate_24 : decode cX5_isGate 24 = .ok (.iconst 0, 1) := by decide +kernel
theorem dX5_isGate_25 : decode cX5_isGate 25 = .ok (.ireturn, 1) := by decide +kernel
theorem dX5_passes_0 : decode cX5_passes 0 = .ok (.iload_n 0, 1) := by decide +kernel
theorem dX5_passes_1 : decode cX5_passes 1 = .ok (.iload_n 2, 1) := by decide +kernel
theorem dX5_passes_2 : decode cX5_passes 2 = .ok (.ixor, 1) := by decide +kernel
theorem dX5_passes_3 : decode cX5_passes 3 = .ok (.iload_n 1, 1) := by decide +kernel
theorem dX5_passes_4 : decode cX5_passes 4 = .ok (.iand, 1) := by decide +kernel
theorem dX5_passes_5 : decode cX5_passes 5 = .ok (.ifCond .ne 7, 3) := by decide +kernel
theorem dX5_passes_8 : decode cX5_passes 8 = .ok (.iconst 1, 1) := by decide +kernel
theorem dX5_passes_9 : decode cX5_passes 9 = .ok (.goto 4, 3) := by decide +kernel
theorem dX5_passes_12 : decode cX5_passes 12 = .ok (.iconst 0, 1) := by decide +kernel
theorem dX5_passes_13 : decode cX5_passes 13 = .ok (.ireturn, 1) := by decide +kernel
set_option maxRecDepth 20000 in
theorem ggX5_signOf_J6_bitCount_0f7a4 : GoodIn wsX5_signOf wsJ6_bitCount_0f7a4 := goodIn_r _ [4, 5, 6, 7] (by decide +kernel) (by decide +kernel)
set_option maxRecDepth 20000 in
theorem gX5_signOf_J6_bitCount_0f7a4 : GoodIn wsX5_signOf (va_wsS RX5 230 yJ6_bitCount_0f7a4 wsJ6_bitCount_0f7a4) := goodIn_app (goodIn_of _ (by decide +kernel)) ggX5_signOf_J6_bitCount_0f7a4
theorem dX5_signOf_0 : decode cX5_signOf 0 = .ok (.iload_n 0, 1) := by decide +kernel
theorem dX5_signOf_1 : decode cX5_signOf 1 = .ok (.iload_n 1, 1) := by decide +kernel
theorem dX5_signOf_2 : decode cX5_signOf 2 = .ok (.iand, 1) := by decide +kernel
theorem dX5_signOf_3 : decode cX5_signOf 3 = .ok (.invokestatic 230, 3) := by decide +kernel
theorem dX5_signOf_6 : decode cX5_signOf 6 = .ok (.iconst 1, 1) := by decide +kernel
theorem dX5_signOf_7 : decode cX5_signOf 7 = .ok (.iand, 1) := by decide +kernel
theorem dX5_signOf_8 : decode cX5_signOf 8 = .ok (.ifCond .ne 7, 3) := by decide +kernel
theorem dX5_signOf_11 : decode cX5_signOf 11 = .ok (.iconst 1, 1) := by decide +kernel
theorem dX5_signOf_12 : decode cX5_signOf 12 = .ok (.goto 4, 3) := by decide +kernel
theorem dX5_signOf_15 : decode cX5_signOf 15 = .ok (.iconst (-1), 1) := by decide +kernel
theorem dX5_signOf_16 : decode cX5_signOf 16 = .ok (.ireturn, 1) := by decide +kernel
theorem dX5_fold_0 : decode cX5_fold 0 = .ok (.ldc2_w 235, 3) := by decide +kernel
theorem dX5_fold_3 : decode cX5_fold 3 = .ok (.lload_n 0, 1) := by decide +kernel
theorem dX5_fold_4 : decode cX5_fold 4 = .ok (.lmul, 1) := by decide +kernel
theorem dX5_fold_5 : decode cX5_fold 5 = .ok (.lload_n 2, 1) := by decide +kernel
theorem dX5_fold_6 : decode cX5_fold 6 = .ok (.ladd, 1) := by decide +kernel
theorem dX5_fold_7 : decode cX5_fold 7 = .ok (.lreturn, 1) := by decide +kernel
set_option maxRecDepth 20000 in
theorem ggX5_foldIfKnown_X5_fold : GoodIn wsX5_foldIfKnown wsX5_fold := goodIn_r _ [4, 5] (by decide +kernel) (by decide +kernel)
set_option maxRecDepth 20000 in
theorem gX5_foldIfKnown_X5_fold : GoodIn wsX5_foldIfKnown (va_wsS RX5 237 yX5_fold wsX5_fold) := goodIn_app (goodIn_of _ (by decide +kernel)) ggX5_foldIfKnown_X5_fold
theorem dX5_foldIfKnown_0 : decode cX5_foldIfKnown 0 = .ok (.iload_n 2, 1) := by decide +kernel
theorem dX5_foldIfKnown_1 : decode cX5_foldIfKnown 1 = .ok (.ifCond .eq 16, 3) := by decide +kernel
theorem dX5_foldIfKnown_4 : decode cX5_foldIfKnown 4 = .ok (.lload_n 0, 1) := by decide +kernel
theorem dX5_foldIfKnown_5 : decode cX5_foldIfKnown 5 = .ok (.lconst 1, 1) := by decide +kernel
theorem dX5_foldIfKnown_6 : decode cX5_foldIfKnown 6 = .ok (.invokestatic 237, 3) := by decide +kernel
theorem dX5_foldIfKnown_9 : decode cX5_foldIfKnown 9 = .ok (.iload_n 3, 1) := by decide +kernel
theorem dX5_foldIfKnown_10 : decode cX5_foldIfKnown 10 = .ok (.i2l, 1) := by decide +kernel
theorem dX5_foldIfKnown_11 : decode cX5_foldIfKnown 11 = .ok (.invokestatic 237, 3) := by decide +kernel
theorem dX5_foldIfKnown_14 : decode cX5_foldIfKnown 14 = .ok (.goto 8, 3) := by decide +kernel
theorem dX5_foldIfKnown_17 : decode cX5_foldIfKnown 17 = .ok (.lload_n 0, 1) := by decide +kernel
theorem dX5_foldIfKnown_18 : decode cX5_foldIfKnown 18 = .ok (.lconst 0, 1) := by decide +kernel
theorem dX5_foldIfKnown_19 : decode cX5_foldIfKnown 19 = .ok (.invokestatic 237, 3) := by decide +kernel
theorem dX5_foldIfKnown_22 : decode cX5_foldIfKnown 22 = .ok (.lreturn, 1) := by decide +kernel
theorem dX5_rootUp_0 : decode cX5_rootUp 0 = .ok (.lload_n 0, 1) := by decide +kernel
theorem dX5_rootUp_1 : decode cX5_rootUp 1 = .ok (.lconst 0, 1) := by decide +kernel
theorem dX5_rootUp_2 : decode cX5_rootUp 2 = .ok (.lcmp, 1) := by decide +kernel
theorem dX5_rootUp_3 : decode cX5_rootUp 3 = .ok (.ifCond .gt 5, 3) := by decide +kernel
theorem dX5_rootUp_6 : decode cX5_rootUp 6 = .ok (.iconst 0, 1) := by decide +kernel
theorem dX5_rootUp_7 : decode cX5_rootUp 7 = .ok (.ireturn, 1) := by decide +kernel
theorem dX5_rootUp_8 : decode cX5_rootUp 8 = .ok (.lconst 0, 1) := by decide +kernel
theorem dX5_rootUp_9 : decode cX5_rootUp 9 = .ok (.lstore_n 2, 1) := by decide +kernel
theorem dX5_rootUp_10 : decode cX5_rootUp 10 = .ok (.bipush 16, 2) := by decide +kernel
theorem dX5_rootUp_12 : decode cX5_rootUp 12 = .ok (.istore 4, 2) := by decide +kernel
theorem dX5_rootUp_14 : decode cX5_rootUp 14 = .ok (.iload 4, 2) := by decide +kernel
theorem dX5_rootUp_16 : decode cX5_rootUp 16 = .ok (.ifCond .lt 30, 3) := by decide +kernel
theorem dX5_rootUp_19 : decode cX5_rootUp 19 = .ok (.lload_n 2, 1) := by decide +kernel
theorem dX5_rootUp_20 : decode cX5_rootUp 20 = .ok (.lconst 1, 1) := by decide +kernel
theorem dX5_rootUp_21 : decode cX5_rootUp 21 = .ok (.iload 4, 2) := by decide +kernel
theorem dX5_rootUp_23 : decode cX5_rootUp 23 = .ok (.lshl, 1) := by decide +kernel
theorem dX5_rootUp_24 : decode cX5_rootUp 24 = .ok (.ladd, 1) := by decide +kernel
theorem dX5_rootUp_25 : decode cX5_rootUp 25 = .ok (.lstore 5, 2) := by decide +kernel
theorem dX5_rootUp_27 : decode cX5_rootUp 27 = .ok (.lload 5, 2) := by decide +kernel
theorem dX5_rootUp_29 : decode cX5_rootUp 29 = .ok (.lload 5, 2) := by decide +kernel
theorem dX5_rootUp_31 : decode cX5_rootUp 31 = .ok (.lmul, 1) := by decide +kernel
theorem dX5_rootUp_32 : decode cX5_rootUp 32 = .ok (.lload_n 0, 1) := by decide +kernel
theorem dX5_rootUp_33 : decode cX5_rootUp 33 = .ok (.lcmp, 1) := by decide +kernel
theorem dX5_rootUp_34 : decode cX5_rootUp 34 = .ok (.ifCond .ge 6, 3) := by decide +kernel
theorem dX5_rootUp_37 : decode cX5_rootUp 37 = .ok (.lload 5, 2) := by decide +kernel
theorem dX5_rootUp_39 : decode cX5_rootUp 39 = .ok (.lstore_n 2, 1) := by decide +kernel
theorem dX5_rootUp_40 : decode cX5_rootUp 40 = .ok (.iinc 4 (-1), 3) := by decide +kernel
theorem dX5_rootUp_43 : decode cX5_rootUp 43 = .ok (.goto (-29), 3) := by decide +kernel
theorem dX5_rootUp_46 : decode cX5_rootUp 46 = .ok (.lload_n 2, 1) := by decide +kernel
theorem dX5_rootUp_47 : decode cX5_rootUp 47 = .ok (.lconst 1, 1) := by decide +kernel
theorem dX5_rootUp_48 : decode cX5_rootUp 48 = .ok (.ladd, 1) := by decide +kernel
theorem dX5_rootUp_49 : decode cX5_rootUp 49 = .ok (.l2i, 1) := by decide +kernel
theorem dX5_rootUp_50 : decode cX5_rootUp 50 = .ok (.ireturn, 1) := by decide +kernel
theorem dJ6_bitCount_0f7a4_0 : decode cJ6_bitCount_0f7a4 0 = .ok (.iload_n 0, 1) := by decide +kernel
theorem dJ6_bitCount_0f7a4_1 : decode cJ6_bitCount_0f7a4 1 = .ok (.iload_n 0, 1) := by decide +kernel
theorem dJ6_bitCount_0f7a4_2 : decode cJ6_bitCount_0f7a4 2 = .ok (.iconst 1, 1) := by decide +kernel
theorem dJ6_bitCount_0f7a4_3 : decode cJ6_bitCount_0f7a4 3 = .ok (.iushr, 1) := by decide +kernel
theorem dJ6_bitCount_0f7a4_4 : decode cJ6_bitCount_0f7a4 4 = .ok (.ldc_w 265, 3) := by decide +kernel
theorem dJ6_bitCount_0f7a4_7 : decode cJ6_bitCount_0f7a4 7 = .ok (.iand, 1) := by decide +kernel
theorem dJ6_bitCount_0f7a4_8 : decode cJ6_bitCount_0f7a4 8 = .ok (.isub, 1) := by decide +kernel
theorem dJ6_bitCount_0f7a4_9 : decode cJ6_bitCount_0f7a4 9 = .ok (.istore_n 0, 1) := by decide +kernel
theorem dJ6_bitCount_0f7a4_10 : decode cJ6_bitCount_0f7a4 10 = .ok (.iload_n 0, 1) := by decide +kernel
theorem dJ6_bitCount_0f7a4_11 : decode cJ6_bitCount_0f7a4 11 = .ok (.ldc_w 266, 3) := by decide +kernel
theorem dJ6_bitCount_0f7a4_14 : decode cJ6_bitCount_0f7a4 14 = .ok (.iand, 1) := by decide +kernel
theorem dJ6_bitCount_0f7a4_15 : decode cJ6_bitCount_0f7a4 15 = .ok (.iload_n 0, 1) := by decide +kernel
theorem dJ6_bitCount_0f7a4_16 : decode cJ6_bitCount_0f7a4 16 = .ok (.iconst 2, 1) := by decide +kernel
theorem dJ6_bitCount_0f7a4_17 : decode cJ6_bitCount_0f7a4 17 = .ok (.iushr, 1) := by decide +kernel
theorem dJ6_bitCount_0f7a4_18 : decode cJ6_bitCount_0f7a4 18 = .ok (.ldc_w 266, 3) := by decide +kernel
theorem dJ6_bitCount_0f7a4_21 : decode cJ6_bitCount_0f7a4 21 = .ok (.iand, 1) := by decide +kernel
theorem dJ6_bitCount_0f7a4_22 : decode cJ6_bitCount_0f7a4 22 = .ok (.iadd, 1) := by decide +kernel
theorem dJ6_bitCount_0f7a4_23 : decode cJ6_bitCount_0f7a4 23 = .ok (.istore_n 0, 1) := by decide +kernel
theorem dJ6_bitCount_0f7a4_24 : decode cJ6_bitCount_0f7a4 24 = .ok (.iload_n 0, 1) := by decide +kernel
theorem dJ6_bitCount_0f7a4_25 : decode cJ6_bitCount_0f7a4 25 = .ok (.iload_n 0, 1) := by decide +kernel
theorem dJ6_bitCount_0f7a4_26 : decode cJ6_bitCount_0f7a4 26 = .ok (.iconst 4, 1) := by decide +kernel
theorem dJ6_bitCount_0f7a4_27 : decode cJ6_bitCount_0f7a4 27 = .ok (.iushr, 1) := by decide +kernel
theorem dJ6_bitCount_0f7a4_28 : decode cJ6_bitCount_0f7a4 28 = .ok (.iadd, 1) := by decide +kernel
theorem dJ6_bitCount_0f7a4_29 : decode cJ6_bitCount_0f7a4 29 = .ok (.ldc_w 267, 3) := by decide +kernel
theorem dJ6_bitCount_0f7a4_32 : decode cJ6_bitCount_0f7a4 32 = .ok (.iand, 1) := by decide +kernel
theorem dJ6_bitCount_0f7a4_33 : decode cJ6_bitCount_0f7a4 33 = .ok (.istore_n 0, 1) := by decide +kernel
theorem dJ6_bitCount_0f7a4_34 : decode cJ6_bitCount_0f7a4 34 = .ok (.iload_n 0, 1) := by decide +kernel
theorem dJ6_bitCount_0f7a4_35 : decode cJ6_bitCount_0f7a4 35 = .ok (.iload_n 0, 1) := by decide +kernel
theorem dJ6_bitCount_0f7a4_36 : decode cJ6_bitCount_0f7a4 36 = .ok (.bipush 8, 2) := by decide +kernel
theorem dJ6_bitCount_0f7a4_38 : decode cJ6_bitCount_0f7a4 38 = .ok (.iushr, 1) := by decide +kernel
theorem dJ6_bitCount_0f7a4_39 : decode cJ6_bitCount_0f7a4 39 = .ok (.iadd, 1) := by decide +kernel
theorem dJ6_bitCount_0f7a4_40 : decode cJ6_bitCount_0f7a4 40 = .ok (.istore_n 0, 1) := by decide +kernel
theorem dJ6_bitCount_0f7a4_41 : decode cJ6_bitCount_0f7a4 41 = .ok (.iload_n 0, 1) := by decide +kernel
theorem dJ6_bitCount_0f7a4_42 : decode cJ6_bitCount_0f7a4 42 = .ok (.iload_n 0, 1) := by decide +kernel
theorem dJ6_bitCount_0f7a4_43 : decode cJ6_bitCount_0f7a4 43 = .ok (.bipush 16, 2) := by decide +kernel
theorem dJ6_bitCount_0f7a4_45 : decode cJ6_bitCount_0f7a4 45 = .ok (.iushr, 1) := by decide +kernel
theorem dJ6_bitCount_0f7a4_46 : decode cJ6_bitCount_0f7a4 46 = .ok (.iadd, 1) := by decide +kernel
theorem dJ6_bitCount_0f7a4_47 : decode cJ6_bitCount_0f7a4 47 = .ok (.istore_n 0, 1) := by decide +kernel
theorem dJ6_bitCount_0f7a4_48 : decode cJ6_bitCount_0f7a4 48 = .ok (.iload_n 0, 1) := by decide +kernel
theorem dJ6_bitCount_0f7a4_49 : decode cJ6_bitCount_0f7a4 49 = .ok (.bipush 63, 2) := by decide +kernel
theorem dJ6_bitCount_0f7a4_51 : decode cJ6_bitCount_0f7a4 51 = .ok (.iand, 1) := by decide +kernel
theorem dJ6_bitCount_0f7a4_52 : decode cJ6_bitCount_0f7a4 52 = .ok (.ireturn, 1) := by decide +kernel
theorem dJ9_floorDiv_7cf53_0 : decode cJ9_floorDiv_7cf53 0 = .ok (.iload_n 0, 1) := by decide +kernel
theorem dJ9_floorDiv_7cf53_1 : decode cJ9_floorDiv_7cf53 1 = .ok (.iload_n 1, 1) := by decide +kernel
theorem dJ9_floorDiv_7cf53_2 : decode cJ9_floorDiv_7cf53 2 = .ok (.idiv, 1) := by decide +kernel
theorem dJ9_floorDiv_7cf53_3 : decode cJ9_floorDiv_7cf53 3 = .ok (.istore_n 2, 1) := by decide +kernel
theorem dJ9_floorDiv_7cf53_4 : decode cJ9_floorDiv_7cf53 4 = .ok (.iload_n 0, 1) := by decide +kernel
theorem dJ9_floorDiv_7cf53_5 : decode cJ9_floorDiv_7cf53 5 = .ok (.iload_n 1, 1) := by decide +kernel
theorem dJ9_floorDiv_7cf53_6 : decode cJ9_floorDiv_7cf53 6 = .ok (.ixor, 1) := by decide +kernel
theorem dJ9_floorDiv_7cf53_7 : decode cJ9_floorDiv_7cf53 7 = .ok (.ifCond .ge 14, 3) := by decide +kernel
theorem dJ9_floorDiv_7cf53_10 : decode cJ9_floorDiv_7cf53 10 = .ok (.iload_n 2, 1) := by decide +kernel
theorem dJ9_floorDiv_7cf53_11 : decode cJ9_floorDiv_7cf53 11 = .ok (.iload_n 1, 1) := by decide +kernel
theorem dJ9_floorDiv_7cf53_12 : decode cJ9_floorDiv_7cf53 12 = .ok (.imul, 1) := by decide +kernel
theorem dJ9_floorDiv_7cf53_13 : decode cJ9_floorDiv_7cf53 13 = .ok (.iload_n 0, 1) := by decide +kernel
theorem dJ9_floorDiv_7cf53_14 : decode cJ9_floorDiv_7cf53 14 = .ok (.if_icmp .eq 7, 3) := by decide +kernel
theorem dJ9_floorDiv_7cf53_17 : decode cJ9_floorDiv_7cf53 17 = .ok (.iload_n 2, 1) := by decide +kernel
theorem dJ9_floorDiv_7cf53_18 : decode cJ9_floorDiv_7cf53 18 = .ok (.iconst 1, 1) := by decide +kernel
theorem dJ9_floorDiv_7cf53_19 : decode cJ9_floorDiv_7cf53 19 = .ok (.isub, 1) := by decide +kernel
theorem dJ9_floorDiv_7cf53_20 : decode cJ9_floorDiv_7cf53 20 = .ok (.ireturn, 1) := by decide +kernel
theorem dJ9_floorDiv_7cf53_21 : decode cJ9_floorDiv_7cf53 21 = .ok (.iload_n 2, 1) := by decide +kernel
theorem dJ9_floorDiv_7cf53_22 : decode cJ9_floorDiv_7cf53 22 = .ok (.ireturn, 1) := by decide +kernel
theorem dJ9_abs_0f7a4_0 : decode cJ9_abs_0f7a4 0 = .ok (.iload_n 0, 1) := by decide +kernel
theorem dJ9_abs_0f7a4_1 : decode cJ9_abs_0f7a4 1 = .ok (.ifCond .ge 8, 3) := by decide +kernel
theorem dJ9_abs_0f7a4_4 : decode cJ9_abs_0f7a4 4 = .ok (.iload_n 0, 1) := by decide +kernel
theorem dJ9_abs_0f7a4_5 : decode cJ9_abs_0f7a4 5 = .ok (.ineg, 1) := by decide +kernel
theorem dJ9_abs_0f7a4_6 : decode cJ9_abs_0f7a4 6 = .ok (.goto 4, 3) := by decide +kernel
theorem dJ9_abs_0f7a4_9 : decode cJ9_abs_0f7a4 9 = .ok (.iload_n 0, 1) := by decide +kernel
theorem dJ9_abs_0f7a4_10 : decode cJ9_abs_0f7a4 10 = .ok (.ireturn, 1) := by decide +kernel
theorem dJ9_abs_067f4_0 : decode cJ9_abs_067f4 0 = .ok (.lload_n 0, 1) := by decide +kernel
theorem dJ9_abs_067f4_1 : decode cJ9_abs_067f4 1 = .ok (.lconst 0, 1) := by decide +kernel
theorem dJ9_abs_067f4_2 : decode cJ9_abs_067f4 2 = .ok (.lcmp, 1) := by decide +kernel
theorem dJ9_abs_067f4_3 : decode cJ9_abs_067f4 3 = .ok (.ifCond .ge 8, 3) := by decide +kernel
theorem dJ9_abs_067f4_6 : decode cJ9_abs_067f4 6 = .ok (.lload_n 0, 1) := by decide +kernel
theorem dJ9_abs_067f4_7 : decode cJ9_abs_067f4 7 = .ok (.lneg, 1) := by decide +kernel
theorem dJ9_abs_067f4_8 : decode cJ9_abs_067f4 8 = .ok (.goto 4, 3) := by decide +kernel
theorem dJ9_abs_067f4_11 : decode cJ9_abs_067f4 11 = .ok (.lload_n 0, 1) := by decide +kernel
theorem dJ9_abs_067f4_12 : decode cJ9_abs_067f4 12 = .ok (.lreturn, 1) := by decide +kernel
theorem dJ9_max_7cf53_0 : decode cJ9_max_7cf53 0 = .ok (.iload_n 0, 1) := by decide +kernel
theorem dJ9_max_7cf53_1 : decode cJ9_max_7cf53 1 = .ok (.iload_n 1, 1) := by decide +kernel
theorem dJ9_max_7cf53_2 : decode cJ9_max_7cf53 2 = .ok (.if_icmp .lt 7, 3) := by decide +kernel
theorem dJ9_max_7cf53_5 : decode cJ9_max_7cf53 5 = .ok (.iload_n 0, 1) := by decide +kernel
theorem dJ9_max_7cf53_6 : decode cJ9_max_7cf53 6 = .ok (.goto 4, 3) := by decide +kernel
theorem dJ9_max_7cf53_9 : decode cJ9_max_7cf53 9 = .ok (.iload_n 1, 1) := by decide +kernel
theorem dJ9_max_7cf53_10 : decode cJ9_max_7cf53 10 = .ok (.ireturn, 1) := by decide +kernel
theorem dJ9_min_7cf53_0 : decode cJ9_min_7cf53 0 = .ok (.iload_n 0, 1) := by decide +kernel
theorem dJ9_min_7cf53_1 : decode cJ9_min_7cf53 1 = .ok (.iload_n 1, 1) := by decide +kernel
theorem dJ9_min_7cf53_2 : decode cJ9_min_7cf53 2 = .ok (.if_icmp .gt 7, 3) := by decide +kernel
theorem dJ9_min_7cf53_5 : decode cJ9_min_7cf53 5 = .ok (.iload_n 0, 1) := by decide +kernel
theorem dJ9_min_7cf53_6 : decode cJ9_min_7cf53 6 = .ok (.goto 4, 3) := by decide +kernel
theorem dJ9_min_7cf53_9 : decode cJ9_min_7cf53 9 = .ok (.iload_n 1, 1) := by decide +kernel
theorem dJ9_min_7cf53_10 : decode cJ9_min_7cf53 10 = .ok (.ireturn, 1) := by decide +kernel
