set_option maxRecDepth 20000 in
theorem ggX6_init_X6_begin : GoodIn wsX6_init wsX6_begin := goodIn_r _ [28, 29, 5, 6, 7, 9, 10, 11, 12, 30, 31, 32, 33, 34, 35, 36, 37, 38, 39, 40, 41, 42, 43, 44, 45, 46, 47, 48, 49, 50, 51, 52, 53, 54, 55] (by decide +kernel) (by decide +kernel)
set_option maxRecDepth 20000 in
theorem gX6_init_X6_begin : GoodIn wsX6_init (wsV RX6 54 RX6 yX6_begin wsX6_begin) := goodIn_app (goodIn_of _ (by decide +kernel)) ggX6_init_X6_begin
theorem dX6_init_0 : decode cX6_init 0 = .ok (.aload_n 0, 1) := by decide +kernel
theorem dX6_init_1 : decode cX6_init 1 = .ok (.invokespecial 1, 3) := by decide +kernel
theorem dX6_init_4 : decode cX6_init 4 = .ok (.aload_n 0, 1) := by decide +kernel
theorem dX6_init_5 : decode cX6_init 5 = .ok (.bipush 32, 2) := by decide +kernel
theorem dX6_init_7 : decode cX6_init 7 = .ok (.newarray .int, 2) := by decide +kernel
theorem dX6_init_9 : decode cX6_init 9 = .ok (.putfield 7, 3) := by decide +kernel
theorem dX6_init_12 : decode cX6_init 12 = .ok (.aload_n 0, 1) := by decide +kernel
theorem dX6_init_13 : decode cX6_init 13 = .ok (.bipush 32, 2) := by decide +kernel
theorem dX6_init_15 : decode cX6_init 15 = .ok (.newarray .int, 2) := by decide +kernel
theorem dX6_init_17 : decode cX6_init 17 = .ok (.putfield 13, 3) := by decide +kernel
theorem dX6_init_20 : decode cX6_init 20 = .ok (.aload_n 0, 1) := by decide +kernel
theorem dX6_init_21 : decode cX6_init 21 = .ok (.bipush 32, 2) := by decide +kernel
theorem dX6_init_23 : decode cX6_init 23 = .ok (.newarray .int, 2) := by decide +kernel
theorem dX6_init_25 : decode cX6_init 25 = .ok (.putfield 16, 3) := by decide +kernel
theorem dX6_init_28 : decode cX6_init 28 = .ok (.aload_n 0, 1) := by decide +kernel
theorem dX6_init_29 : decode cX6_init 29 = .ok (.bipush 32, 2) := by decide +kernel
theorem dX6_init_31 : decode cX6_init 31 = .ok (.newarray .boolean, 2) := by decide +kernel
theorem dX6_init_33 : decode cX6_init 33 = .ok (.putfield 19, 3) := by decide +kernel
theorem dX6_init_36 : decode cX6_init 36 = .ok (.aload_n 0, 1) := by decide +kernel
theorem dX6_init_37 : decode cX6_init 37 = .ok (.bipush 32, 2) := by decide +kernel
theorem dX6_init_39 : decode cX6_init 39 = .ok (.newarray .boolean, 2) := by decide +kernel
theorem dX6_init_41 : decode cX6_init 41 = .ok (.putfield 23, 3) := by decide +kernel
theorem dX6_init_44 : decode cX6_init 44 = .ok (.aload_n 0, 1) := by decide +kernel
theorem dX6_init_45 : decode cX6_init 45 = .ok (.bipush 32, 2) := by decide +kernel
theorem dX6_init_47 : decode cX6_init 47 = .ok (.newarray .int, 2) := by decide +kernel
theorem dX6_init_49 : decode cX6_init 49 = .ok (.putfield 26, 3) := by decide +kernel
theorem dX6_init_52 : decode cX6_init 52 = .ok (.aload_n 0, 1) := by decide +kernel
theorem dX6_init_53 : decode cX6_init 53 = .ok (.bipush 32, 2) := by decide +kernel
theorem dX6_init_55 : decode cX6_init 55 = .ok (.newarray .int, 2) := by decide +kernel
theorem dX6_init_57 : decode cX6_init 57 = .ok (.putfield 29, 3) := by decide +kernel
theorem dX6_init_60 : decode cX6_init 60 = .ok (.aload_n 0, 1) := by decide +kernel
theorem dX6_init_61 : decode cX6_init 61 = .ok (.sipush 192, 3) := by decide +kernel
theorem dX6_init_64 : decode cX6_init 64 = .ok (.newarray .long, 2) := by decide +kernel
theorem dX6_init_66 : decode cX6_init 66 = .ok (.putfield 32, 3) := by decide +kernel
theorem dX6_init_69 : decode cX6_init 69 = .ok (.aload_n 0, 1) := by decide +kernel
theorem dX6_init_70 : decode cX6_init 70 = .ok (.iconst 5, 1) := by decide +kernel
theorem dX6_init_71 : decode cX6_init 71 = .ok (.newarray .int, 2) := by decide +kernel
theorem dX6_init_73 : decode cX6_init 73 = .ok (.putfield 36, 3) := by decide +kernel
theorem dX6_init_76 : decode cX6_init 76 = .ok (.aload_n 0, 1) := by decide +kernel
theorem dX6_init_77 : decode cX6_init 77 = .ok (.iconst 5, 1) := by decide +kernel
theorem dX6_init_78 : decode cX6_init 78 = .ok (.newarray .int, 2) := by decide +kernel
theorem dX6_init_80 : decode cX6_init 80 = .ok (.putfield 39, 3) := by decide +kernel
theorem dX6_init_83 : decode cX6_init 83 = .ok (.aload_n 0, 1) := by decide +kernel
theorem dX6_init_84 : decode cX6_init 84 = .ok (.bipush 81, 2) := by decide +kernel
theorem dX6_init_86 : decode cX6_init 86 = .ok (.newarray .int, 2) := by decide +kernel
theorem dX6_init_88 : decode cX6_init 88 = .ok (.putfield 42, 3) := by decide +kernel
theorem dX6_init_91 : decode cX6_init 91 = .ok (.aload_n 0, 1) := by decide +kernel
theorem dX6_init_92 : decode cX6_init 92 = .ok (.bipush 25, 2) := by decide +kernel
theorem dX6_init_94 : decode cX6_init 94 = .ok (.newarray .boolean, 2) := by decide +kernel
theorem dX6_init_96 : decode cX6_init 96 = .ok (.putfield 45, 3) := by decide +kernel
theorem dX6_init_99 : decode cX6_init 99 = .ok (.aload_n 0, 1) := by decide +kernel
theorem dX6_init_100 : decode cX6_init 100 = .ok (.bipush 25, 2) := by decide +kernel
theorem dX6_init_102 : decode cX6_init 102 = .ok (.newarray .int, 2) := by decide +kernel
theorem dX6_init_104 : decode cX6_init 104 = .ok (.putfield 48, 3) := by decide +kernel
theorem dX6_init_107 : decode cX6_init 107 = .ok (.aload_n 0, 1) := by decide +kernel
theorem dX6_init_108 : decode cX6_init 108 = .ok (.bipush 18, 2) := by decide +kernel
theorem dX6_init_110 : decode cX6_init 110 = .ok (.newarray .int, 2) := by decide +kernel
theorem dX6_init_112 : decode cX6_init 112 = .ok (.putfield 51, 3) := by decide +kernel
theorem dX6_init_115 : decode cX6_init 115 = .ok (.aload_n 0, 1) := by decide +kernel
theorem dX6_init_116 : decode cX6_init 116 = .ok (.iconst 2, 1) := by decide +kernel
theorem dX6_init_117 : decode cX6_init 117 = .ok (.invokevirtual 54, 3) := by decide +kernel
theorem dX6_init_120 : decode cX6_init 120 = .ok (.aload_n 0, 1) := by decide +kernel
theorem dX6_init_121 : decode cX6_init 121 = .ok (.iconst 2, 1) := by decide +kernel
theorem dX6_init_122 : decode cX6_init 122 = .ok (.putfield 58, 3) := by decide +kernel
theorem dX6_init_125 : decode cX6_init 125 = .ok (.aload_n 0, 1) := by decide +kernel
theorem dX6_init_126 : decode cX6_init 126 = .ok (.iconst 1, 1) := by decide +kernel
theorem dX6_init_127 : decode cX6_init 127 = .ok (.putfield 62, 3) := by decide +kernel
theorem dX6_init_130 : decode cX6_init 130 = .ok (.aload_n 0, 1) := by decide +kernel
theorem dX6_init_131 : decode cX6_init 131 = .ok (.iconst 3, 1) := by decide +kernel
theorem dX6_init_132 : decode cX6_init 132 = .ok (.putfield 65, 3) := by decide +kernel
theorem dX6_init_135 : decode cX6_init 135 = .ok (.return_, 1) := by decide +kernel
theorem dX6_in_0 : decode cX6_in 0 = .ok (.lload_n 0, 1) := by decide +kernel
theorem dX6_in_1 : decode cX6_in 1 = .ok (.lload_n 2, 1) := by decide +kernel
theorem dX6_in_2 : decode cX6_in 2 = .ok (.lcmp, 1) := by decide +kernel
theorem dX6_in_3 : decode cX6_in 3 = .ok (.ifCond .lt 14, 3) := by decide +kernel
theorem dX6_in_6 : decode cX6_in 6 = .ok (.lload_n 0, 1) := by decide +kernel
theorem dX6_in_7 : decode cX6_in 7 = .ok (.lload 4, 2) := by decide +kernel
theorem dX6_in_9 : decode cX6_in 9 = .ok (.lcmp, 1) := by decide +kernel
theorem dX6_in_10 : decode cX6_in 10 = .ok (.ifCond .gt 7, 3) := by decide +kernel
theorem dX6_in_13 : decode cX6_in 13 = .ok (.iconst 1, 1) := by decide +kernel
theorem dX6_in_14 : decode cX6_in 14 = .ok (.goto 4, 3) := by decide +kernel
theorem dX6_in_17 : decode cX6_in 17 = .ok (.iconst 0, 1) := by decide +kernel
theorem dX6_in_18 : decode cX6_in 18 = .ok (.ireturn, 1) := by decide +kernel
theorem dX6_floor_0 : decode cX6_floor 0 = .ok (.iload_n 0, 1) := by decide +kernel
theorem dX6_floor_1 : decode cX6_floor 1 = .ok (.iload_n 1, 1) := by decide +kernel
theorem dX6_floor_2 : decode cX6_floor 2 = .ok (.idiv, 1) := by decide +kernel
theorem dX6_floor_3 : decode cX6_floor 3 = .ok (.istore_n 2, 1) := by decide +kernel
theorem dX6_floor_4 : decode cX6_floor 4 = .ok (.iload_n 0, 1) := by decide +kernel
theorem dX6_floor_5 : decode cX6_floor 5 = .ok (.ifCond .ge 15, 3) := by decide +kernel
theorem dX6_floor_8 : decode cX6_floor 8 = .ok (.iload_n 0, 1) := by decide +kernel
theorem dX6_floor_9 : decode cX6_floor 9 = .ok (.iload_n 1, 1) := by decide +kernel
theorem dX6_floor_10 : decode cX6_floor 10 = .ok (.irem, 1) := by decide +kernel
theorem dX6_floor_11 : decode cX6_floor 11 = .ok (.ifCond .eq 9, 3) := by decide +kernel
theorem dX6_floor_14 : decode cX6_floor 14 = .ok (.iload_n 2, 1) := by decide +kernel
theorem dX6_floor_15 : decode cX6_floor 15 = .ok (.iconst 1, 1) := by decide +kernel
theorem dX6_floor_16 : decode cX6_floor 16 = .ok (.isub, 1) := by decide +kernel
theorem dX6_floor_17 : decode cX6_floor 17 = .ok (.goto 4, 3) := by decide +kernel
theorem dX6_floor_20 : decode cX6_floor 20 = .ok (.iload_n 2, 1) := by decide +kernel
theorem dX6_floor_21 : decode cX6_floor 21 = .ok (.ireturn, 1) := by decide +kernel
theorem dX6_begin_0 : decode cX6_begin 0 = .ok (.aload_n 0, 1) := by decide +kernel
theorem dX6_begin_1 : decode cX6_begin 1 = .ok (.iload_n 1, 1) := by decide +kernel
theorem dX6_begin_2 : decode cX6_begin 2 = .ok (.putfield 68, 3) := by decide +kernel
theorem dX6_begin_5 : decode cX6_begin 5 = .ok (.iconst 0, 1) := by decide +kernel
theorem dX6_begin_6 : decode cX6_begin 6 = .ok (.istore_n 2, 1) := by decide +kernel
theorem dX6_begin_7 : decode cX6_begin 7 = .ok (.iload_n 2, 1) := by decide +kernel
theorem dX6_begin_8 : decode cX6_begin 8 = .ok (.bipush 32, 2) := by decide +kernel
theorem dX6_begin_10 : decode cX6_begin 10 = .ok (.if_icmp .ge 59, 3) := by decide +kernel
theorem dX6_begin_13 : decode cX6_begin 13 = .ok (.aload_n 0, 1) := by decide +kernel
theorem dX6_begin_14 : decode cX6_begin 14 = .ok (.getfield 7, 3) := by decide +kernel
theorem dX6_begin_17 : decode cX6_begin 17 = .ok (.iload_n 2, 1) := by decide +kernel
theorem dX6_begin_18 : decode cX6_begin 18 = .ok (.iconst 0, 1) := by decide +kernel
theorem dX6_begin_19 : decode cX6_begin 19 = .ok (.iastore, 1) := by decide +kernel
theorem dX6_begin_20 : decode cX6_begin 20 = .ok (.aload_n 0, 1) := by decide +kernel
theorem dX6_begin_21 : decode cX6_begin 21 = .ok (.getfield 13, 3) := by decide +kernel
theorem dX6_begin_24 : decode cX6_begin 24 = .ok (.iload_n 2, 1) := by decide +kernel
theorem dX6_begin_25 : decode cX6_begin 25 = .ok (.iconst 0, 1) := by decide +kernel
theorem dX6_begin_26 : decode cX6_begin 26 = .ok (.iastore, 1) := by decide +kernel
theorem dX6_begin_27 : decode cX6_begin 27 = .ok (.aload_n 0, 1) := by decide +kernel
theorem dX6_begin_28 : decode cX6_begin 28 = .ok (.getfield 16, 3) := by decide +kernel
theorem dX6_begin_31 : decode cX6_begin 31 = .ok (.iload_n 2, 1) := by decide +kernel
theorem dX6_begin_32 : decode cX6_begin 32 = .ok (.iconst 1, 1) := by decide +kernel
theorem dX6_begin_33 : decode cX6_begin 33 = .ok (.iastore, 1) := by decide +kernel
theorem dX6_begin_34 : decode cX6_begin 34 = .ok (.aload_n 0, 1) := by decide +kernel
theorem dX6_begin_35 : decode cX6_begin 35 = .ok (.getfield 19, 3) := by decide +kernel
theorem dX6_begin_38 : decode cX6_begin 38 = .ok (.iload_n 2, 1) := by decide +kernel
theorem dX6_begin_39 : decode cX6_begin 39 = .ok (.iconst 0, 1) := by decide +kernel
theorem dX6_begin_40 : decode cX6_begin 40 = .ok (.bastore, 1) := by decide +kernel
theorem dX6_begin_41 : decode cX6_begin 41 = .ok (.aload_n 0, 1) := by decide +kernel
theorem dX6_begin_42 : decode cX6_begin 42 = .ok (.getfield 23, 3) := by decide +kernel
theorem dX6_begin_45 : decode cX6_begin 45 = .ok (.iload_n 2, 1) := by decide +kernel
theorem dX6_begin_46 : decode cX6_begin 46 = .ok (.iconst 0, 1) := by decide +kernel
theorem dX6_begin_47 : decode cX6_begin 47 = .ok (.bastore, 1) := by decide +kernel
theorem dX6_begin_48 : decode cX6_begin 48 = .ok (.aload_n 0, 1) := by decide +kernel
theorem dX6_begin_49 : decode cX6_begin 49 = .ok (.getfield 26, 3) := by decide +kernel
theorem dX6_begin_52 : decode cX6_begin 52 = .ok (.iload_n 2, 1) := by decide +kernel
theorem dX6_begin_53 : decode cX6_begin 53 = .ok (.iconst 0, 1) := by decide +kernel
theorem dX6_begin_54 : decode cX6_begin 54 = .ok (.iastore, 1) := by decide +kernel
theorem dX6_begin_55 : decode cX6_begin 55 = .ok (.aload_n 0, 1) := by decide +kernel
theorem dX6_begin_56 : decode cX6_begin 56 = .ok (.getfield 29, 3) := by decide +kernel
theorem dX6_begin_59 : decode cX6_begin 59 = .ok (.iload_n 2, 1) := by decide +kernel
theorem dX6_begin_60 : decode cX6_begin 60 = .ok (.ldc 71, 2) := by decide +kernel
theorem dX6_begin_62 : decode cX6_begin 62 = .ok (.iastore, 1) := by decide +kernel
theorem dX6_begin_63 : decode cX6_begin 63 = .ok (.iinc 2 1, 3) := by decide +kernel
theorem dX6_begin_66 : decode cX6_begin 66 = .ok (.goto (-59), 3) := by decide +kernel
theorem dX6_begin_69 : decode cX6_begin 69 = .ok (.return_, 1) := by decide +kernel
set_option maxRecDepth 20000 in
theorem ggX6_net_X6_in : GoodIn wsX6_net wsX6_in := goodIn_r _ [6] (by decide +kernel) (by decide +kernel)
set_option maxRecDepth 20000 in
theorem gX6_net_X6_in : GoodIn wsX6_net (va_wsS RX6 74 yX6_in wsX6_in) := goodIn_app (goodIn_of _ (by decide +kernel)) ggX6_net_X6_in
set_option maxRecDepth 20000 in
theorem ggX6_net_X6_begin : GoodIn wsX6_net wsX6_begin := goodIn_r _ [10, 2, 11, 12, 13, 14, 15, 16, 17, 18, 19, 20, 21, 22, 23, 24, 25, 26, 27, 28, 29, 30, 31, 32, 33, 34, 35, 36, 37, 38, 39, 40, 41, 42, 43] (by decide +kernel) (by decide +kernel)
set_option maxRecDepth 20000 in
theorem gX6_net_X6_begin : GoodIn wsX6_net (wsV RX6 54 RX6 yX6_begin wsX6_begin) := goodIn_app (goodIn_of _ (by decide +kernel)) ggX6_net_X6_begin
theorem dX6_net_0 : decode cX6_net 0 = .ok (.iload_n 1, 1) := by decide +kernel
theorem dX6_net_1 : decode cX6_net 1 = .ok (.i2l, 1) := by decide +kernel
theorem dX6_net_2 : decode cX6_net 2 = .ok (.lconst 1, 1) := by decide +kernel
theorem dX6_net_3 : decode cX6_net 3 = .ok (.ldc2_w 72, 3) := by decide +kernel
theorem dX6_net_6 : decode cX6_net 6 = .ok (.invokestatic 74, 3) := by decide +kernel
theorem dX6_net_9 : decode cX6_net 9 = .ok (.ifCond .ne 6, 3) := by decide +kernel
theorem dX6_net_12 : decode cX6_net 12 = .ok (.bipush (-102), 2) := by decide +kernel
theorem dX6_net_14 : decode cX6_net 14 = .ok (.ireturn, 1) := by decide +kernel
theorem dX6_net_15 : decode cX6_net 15 = .ok (.aload_n 0, 1) := by decide +kernel
theorem dX6_net_16 : decode cX6_net 16 = .ok (.iconst 1, 1) := by decide +kernel
theorem dX6_net_17 : decode cX6_net 17 = .ok (.iload_n 1, 1) := by decide +kernel
theorem dX6_net_18 : decode cX6_net 18 = .ok (.ishl, 1) := by decide +kernel
theorem dX6_net_19 : decode cX6_net 19 = .ok (.invokevirtual 54, 3) := by decide +kernel
theorem dX6_net_22 : decode cX6_net 22 = .ok (.aload_n 0, 1) := by decide +kernel
theorem dX6_net_23 : decode cX6_net 23 = .ok (.getfield 68, 3) := by decide +kernel
theorem dX6_net_26 : decode cX6_net 26 = .ok (.ireturn, 1) := by decide +kernel
set_option maxRecDepth 20000 in
theorem ggX6_isPlace_X6_in : GoodIn wsX6_isPlace wsX6_in := goodIn_r _ [5] (by decide +kernel) (by decide +kernel)
set_option maxRecDepth 20000 in
theorem gX6_isPlace_X6_in : GoodIn wsX6_isPlace (va_wsS RX6 74 yX6_in wsX6_in) := goodIn_app (goodIn_of _ (by decide +kernel)) ggX6_isPlace_X6_in
theorem dX6_isPlace_0 : decode cX6_isPlace 0 = .ok (.iload_n 1, 1) := by decide +kernel
theorem dX6_isPlace_1 : decode cX6_isPlace 1 = .ok (.i2l, 1) := by decide +kernel
theorem dX6_isPlace_2 : decode cX6_isPlace 2 = .ok (.lconst 0, 1) := by decide +kernel
theorem dX6_isPlace_3 : decode cX6_isPlace 3 = .ok (.aload_n 0, 1) := by decide +kernel
theorem dX6_isPlace_4 : decode cX6_isPlace 4 = .ok (.getfield 68, 3) := by decide +kernel
theorem dX6_isPlace_7 : decode cX6_isPlace 7 = .ok (.iconst 1, 1) := by decide +kernel
theorem dX6_isPlace_8 : decode cX6_isPlace 8 = .ok (.isub, 1) := by decide +kernel
theorem dX6_isPlace_9 : decode cX6_isPlace 9 = .ok (.i2l, 1) := by decide +kernel
theorem dX6_isPlace_10 : decode cX6_isPlace 10 = .ok (.invokestatic 74, 3) := by decide +kernel
theorem dX6_isPlace_13 : decode cX6_isPlace 13 = .ok (.ireturn, 1) := by decide +kernel
theorem dX6_sign_0 : decode cX6_sign 0 = .ok (.iload_n 0, 1) := by decide +kernel
theorem dX6_sign_1 : decode cX6_sign 1 = .ok (.iload_n 1, 1) := by decide +kernel
theorem dX6_sign_2 : decode cX6_sign 2 = .ok (.iand, 1) := by decide +kernel
theorem dX6_sign_3 : decode cX6_sign 3 = .ok (.istore_n 2, 1) := by decide +kernel
theorem dX6_sign_4 : decode cX6_sign 4 = .ok (.iconst 1, 1) := by decide +kernel
theorem dX6_sign_5 : decode cX6_sign 5 = .ok (.istore_n 3, 1) := by decide +kernel
theorem dX6_sign_6 : decode cX6_sign 6 = .ok (.iload_n 2, 1) := by decide +kernel
theorem dX6_sign_7 : decode cX6_sign 7 = .ok (.ifCond .le 24, 3) := by decide +kernel
theorem dX6_sign_10 : decode cX6_sign 10 = .ok (.iload_n 2, 1) := by decide +kernel
theorem dX6_sign_11 : decode cX6_sign 11 = .ok (.iconst 2, 1) := by decide +kernel
theorem dX6_sign_12 : decode cX6_sign 12 = .ok (.irem, 1) := by decide +kernel
theorem dX6_sign_13 : decode cX6_sign 13 = .ok (.iconst 1, 1) := by decide +kernel
theorem dX6_sign_14 : decode cX6_sign 14 = .ok (.if_icmp .ne 8, 3) := by decide +kernel
theorem dX6_sign_17 : decode cX6_sign 17 = .ok (.iload_n 3, 1) := by decide +kernel
theorem dX6_sign_18 : decode cX6_sign 18 = .ok (.ineg, 1) := by decide +kernel
theorem dX6_sign_19 : decode cX6_sign 19 = .ok (.goto 4, 3) := by decide +kernel
theorem dX6_sign_22 : decode cX6_sign 22 = .ok (.iload_n 3, 1) := by decide +kernel
theorem dX6_sign_23 : decode cX6_sign 23 = .ok (.istore_n 3, 1) := by decide +kernel
theorem dX6_sign_24 : decode cX6_sign 24 = .ok (.iload_n 2, 1) := by decide +kernel
theorem dX6_sign_25 : decode cX6_sign 25 = .ok (.iconst 2, 1) := by decide +kernel
theorem dX6_sign_26 : decode cX6_sign 26 = .ok (.idiv, 1) := by decide +kernel
theorem dX6_sign_27 : decode cX6_sign 27 = .ok (.istore_n 2, 1) := by decide +kernel
theorem dX6_sign_28 : decode cX6_sign 28 = .ok (.goto (-22), 3) := by decide +kernel
theorem dX6_sign_31 : decode cX6_sign 31 = .ok (.iload_n 3, 1) := by decide +kernel
theorem dX6_sign_32 : decode cX6_sign 32 = .ok (.ireturn, 1) := by decide +kernel
set_option maxRecDepth 20000 in
theorem ggX6_near_X6_isPlace : GoodIn wsX6_near wsX6_isPlace := goodIn_r _ [8, 9, 10, 11, 7, 12, 13, 14, 15, 16, 17, 18, 19, 20, 21, 22, 23, 24, 25, 26, 27, 28, 29, 30, 31, 32, 33, 34, 35, 36, 37] (by decide +kernel) (by decide +kernel)
set_option maxRecDepth 20000 in
theorem gX6_near_X6_isPlace : GoodIn wsX6_near (wsV RX6 78 RX6 yX6_isPlace wsX6_isPlace) := goodIn_app (goodIn_of _ (by decide +kernel)) ggX6_near_X6_isPlace
set_option maxRecDepth 20000 in
theorem ggX6_near_X6_in : GoodIn wsX6_near wsX6_in := goodIn_r _ [12] (by decide +kernel) (by decide +kernel)
set_option maxRecDepth 20000 in
theorem gX6_near_X6_in : GoodIn wsX6_near (va_wsS RX6 74 yX6_in wsX6_in) := goodIn_app (goodIn_of _ (by decide +kernel)) ggX6_near_X6_in
theorem dX6_near_0 : decode cX6_near 0 = .ok (.aload_n 0, 1) := by decide +kernel
theorem dX6_near_1 : decode cX6_near 1 = .ok (.iload_n 1, 1) := by decide +kernel
theorem dX6_near_2 : decode cX6_near 2 = .ok (.invokevirtual 78, 3) := by decide +kernel
theorem dX6_near_5 : decode cX6_near 5 = .ok (.ifCond .ne 7, 3) := by decide +kernel
theorem dX6_near_8 : decode cX6_near 8 = .ok (.sipush (-10101), 3) := by decide +kernel
theorem dX6_near_11 : decode cX6_near 11 = .ok (.ireturn, 1) := by decide +kernel
theorem dX6_near_12 : decode cX6_near 12 = .ok (.iload_n 2, 1) := by decide +kernel
theorem dX6_near_13 : decode cX6_near 13 = .ok (.i2l, 1) := by decide +kernel
theorem dX6_near_14 : decode cX6_near 14 = .ok (.ldc2_w 82, 3) := by decide +kernel
theorem dX6_near_17 : decode cX6_near 17 = .ok (.ldc2_w 84, 3) := by decide +kernel
theorem dX6_near_20 : decode cX6_near 20 = .ok (.invokestatic 74, 3) := by decide +kernel
theorem dX6_near_23 : decode cX6_near 23 = .ok (.ifCond .ne 7, 3) := by decide +kernel
theorem dX6_near_26 : decode cX6_near 26 = .ok (.sipush (-10102), 3) := by decide +kernel
theorem dX6_near_29 : decode cX6_near 29 = .ok (.ireturn, 1) := by decide +kernel
theorem dX6_near_30 : decode cX6_near 30 = .ok (.aload_n 0, 1) := by decide +kernel
theorem dX6_near_31 : decode cX6_near 31 = .ok (.getfield 7, 3) := by decide +kernel
theorem dX6_near_34 : decode cX6_near 34 = .ok (.iload_n 1, 1) := by decide +kernel
theorem dX6_near_35 : decode cX6_near 35 = .ok (.iaload, 1) := by decide +kernel
theorem dX6_near_36 : decode cX6_near 36 = .ok (.istore_n 3, 1) := by decide +kernel
theorem dX6_near_37 : decode cX6_near 37 = .ok (.aload_n 0, 1) := by decide +kernel
theorem dX6_near_38 : decode cX6_near 38 = .ok (.getfield 7, 3) := by decide +kernel
theorem dX6_near_41 : decode cX6_near 41 = .ok (.iload_n 1, 1) := by decide +kernel
theorem dX6_near_42 : decode cX6_near 42 = .ok (.iload_n 2, 1) := by decide +kernel
theorem dX6_near_43 : decode cX6_near 43 = .ok (.iastore, 1) := by decide +kernel
theorem dX6_near_44 : decode cX6_near 44 = .ok (.iload_n 3, 1) := by decide +kernel
theorem dX6_near_45 : decode cX6_near 45 = .ok (.ireturn, 1) := by decide +kernel
set_option maxRecDepth 20000 in
theorem ggX6_farOf_X6_sign : GoodIn wsX6_farOf wsX6_sign := goodIn_r _ [6] (by decide +kernel) (by decide +kernel)
set_option maxRecDepth 20000 in
theorem gX6_farOf_X6_sign : GoodIn wsX6_farOf (va_wsS RX6 86 yX6_sign wsX6_sign) := goodIn_app (goodIn_of _ (by decide +kernel)) ggX6_farOf_X6_sign
theorem dX6_farOf_0 : decode cX6_farOf 0 = .ok (.iconst 0, 1) := by decide +kernel
theorem dX6_farOf_1 : decode cX6_farOf 1 = .ok (.istore_n 2, 1) := by decide +kernel
theorem dX6_farOf_2 : decode cX6_farOf 2 = .ok (.iconst 0, 1) := by decide +kernel
theorem dX6_farOf_3 : decode cX6_farOf 3 = .ok (.istore_n 3, 1) := by decide +kernel
theorem dX6_farOf_4 : decode cX6_farOf 4 = .ok (.iload_n 3, 1) := by decide +kernel
theorem dX6_farOf_5 : decode cX6_farOf 5 = .ok (.aload_n 0, 1) := by decide +kernel
theorem dX6_farOf_6 : decode cX6_farOf 6 = .ok (.getfield 68, 3) := by decide +kernel
theorem dX6_farOf_9 : decode cX6_farOf 9 = .ok (.if_icmp .ge 24, 3) := by decide +kernel
theorem dX6_farOf_12 : decode cX6_farOf 12 = .ok (.iload_n 2, 1) := by decide +kernel
theorem dX6_farOf_13 : decode cX6_farOf 13 = .ok (.aload_n 0, 1) := by decide +kernel
theorem dX6_farOf_14 : decode cX6_farOf 14 = .ok (.getfield 7, 3) := by decide +kernel
theorem dX6_farOf_17 : decode cX6_farOf 17 = .ok (.iload_n 3, 1) := by decide +kernel
theorem dX6_farOf_18 : decode cX6_farOf 18 = .ok (.iaload, 1) := by decide +kernel
theorem dX6_farOf_19 : decode cX6_farOf 19 = .ok (.iload_n 3, 1) := by decide +kernel
theorem dX6_farOf_20 : decode cX6_farOf 20 = .ok (.iload_n 1, 1) := by decide +kernel
theorem dX6_farOf_21 : decode cX6_farOf 21 = .ok (.invokestatic 86, 3) := by decide +kernel
theorem dX6_farOf_24 : decode cX6_farOf 24 = .ok (.imul, 1) := by decide +kernel
theorem dX6_farOf_25 : decode cX6_farOf 25 = .ok (.iadd, 1) := by decide +kernel
theorem dX6_farOf_26 : decode cX6_farOf 26 = .ok (.istore_n 2, 1) := by decide +kernel
theorem dX6_farOf_27 : decode cX6_farOf 27 = .ok (.iinc 3 1, 3) := by decide +kernel
theorem dX6_farOf_30 : decode cX6_farOf 30 = .ok (.goto (-26), 3) := by decide +kernel
theorem dX6_farOf_33 : decode cX6_farOf 33 = .ok (.iload_n 2, 1) := by decide +kernel
theorem dX6_farOf_34 : decode cX6_farOf 34 = .ok (.ireturn, 1) := by decide +kernel
set_option maxRecDepth 20000 in
theorem ggX6_far_X6_isPlace : GoodIn wsX6_far wsX6_isPlace := goodIn_r _ [6, 7, 8, 9, 5, 10, 19, 20, 21, 22, 23, 24, 25, 26, 27, 28, 29, 30, 31, 32, 33, 34, 35, 36, 37, 38, 39, 40, 41, 42, 43] (by decide +kernel) (by decide +kernel)
set_option maxRecDepth 20000 in
theorem gX6_far_X6_isPlace : GoodIn wsX6_far (wsV RX6 78 RX6 yX6_isPlace wsX6_isPlace) := goodIn_app (goodIn_of _ (by decide +kernel)) ggX6_far_X6_isPlace
set_option maxRecDepth 20000 in
theorem ggX6_far_X6_farOf : GoodIn wsX6_far wsX6_farOf := goodIn_r _ [14, 7, 15, 16, 17, 5, 18, 19, 20, 21, 22, 23, 24, 25, 26, 27, 28, 29, 30, 31, 32, 33, 34, 35, 36, 37, 38, 39, 40, 41, 42, 43] (by decide +kernel) (by decide +kernel)
set_option maxRecDepth 20000 in
theorem gX6_far_X6_farOf : GoodIn wsX6_far (wsV RX6 90 RX6 yX6_farOf wsX6_farOf) := goodIn_app (goodIn_of _ (by decide +kernel)) ggX6_far_X6_farOf
theorem dX6_far_0 : decode cX6_far 0 = .ok (.aload_n 0, 1) := by decide +kernel
theorem dX6_far_1 : decode cX6_far 1 = .ok (.iload_n 1, 1) := by decide +kernel
theorem dX6_far_2 : decode cX6_far 2 = .ok (.invokevirtual 78, 3) := by decide +kernel
theorem dX6_far_5 : decode cX6_far 5 = .ok (.ifCond .eq 11, 3) := by decide +kernel
theorem dX6_far_8 : decode cX6_far 8 = .ok (.aload_n 0, 1) := by decide +kernel
theorem dX6_far_9 : decode cX6_far 9 = .ok (.iload_n 1, 1) := by decide +kernel
theorem dX6_far_10 : decode cX6_far 10 = .ok (.invokevirtual 90, 3) := by decide +kernel
theorem dX6_far_13 : decode cX6_far 13 = .ok (.goto 5, 3) := by decide +kernel
theorem dX6_far_16 : decode cX6_far 16 = .ok (.ldc 94, 2) := by decide +kernel
theorem dX6_far_18 : decode cX6_far 18 = .ok (.ireturn, 1) := by decide +kernel
set_option maxRecDepth 20000 in
theorem ggX6_backOf_X6_sign : GoodIn wsX6_backOf wsX6_sign := goodIn_r _ [6] (by decide +kernel) (by decide +kernel)
set_option maxRecDepth 20000 in
theorem gX6_backOf_X6_sign : GoodIn wsX6_backOf (va_wsS RX6 86 yX6_sign wsX6_sign) := goodIn_app (goodIn_of _ (by decide +kernel)) ggX6_backOf_X6_sign
theorem dX6_backOf_0 : decode cX6_backOf 0 = .ok (.iconst 0, 1) := by decide +kernel
theorem dX6_backOf_1 : decode cX6_backOf 1 = .ok (.istore_n 2, 1) := by decide +kernel
theorem dX6_backOf_2 : decode cX6_backOf 2 = .ok (.iconst 0, 1) := by decide +kernel
theorem dX6_backOf_3 : decode cX6_backOf 3 = .ok (.istore_n 3, 1) := by decide +kernel
theorem dX6_backOf_4 : decode cX6_backOf 4 = .ok (.iload_n 3, 1) := by decide +kernel
theorem dX6_backOf_5 : decode cX6_backOf 5 = .ok (.aload_n 0, 1) := by decide +kernel
theorem dX6_backOf_6 : decode cX6_backOf 6 = .ok (.getfield 68, 3) := by decide +kernel
theorem dX6_backOf_9 : decode cX6_backOf 9 = .ok (.if_icmp .ge 24, 3) := by decide +kernel
theorem dX6_backOf_12 : decode cX6_backOf 12 = .ok (.iload_n 2, 1) := by decide +kernel
theorem dX6_backOf_13 : decode cX6_backOf 13 = .ok (.aload_n 0, 1) := by decide +kernel
theorem dX6_backOf_14 : decode cX6_backOf 14 = .ok (.getfield 13, 3) := by decide +kernel
theorem dX6_backOf_17 : decode cX6_backOf 17 = .ok (.iload_n 3, 1) := by decide +kernel
theorem dX6_backOf_18 : decode cX6_backOf 18 = .ok (.iaload, 1) := by decide +kernel
theorem dX6_backOf_19 : decode cX6_backOf 19 = .ok (.iload_n 1, 1) := by decide +kernel
theorem dX6_backOf_20 : decode cX6_backOf 20 = .ok (.iload_n 3, 1) := by decide +kernel
theorem dX6_backOf_21 : decode cX6_backOf 21 = .ok (.invokestatic 86, 3) := by decide +kernel
theorem dX6_backOf_24 : decode cX6_backOf 24 = .ok (.imul, 1) := by decide +kernel
theorem dX6_backOf_25 : decode cX6_backOf 25 = .ok (.iadd, 1) := by decide +kernel
theorem dX6_backOf_26 : decode cX6_backOf 26 = .ok (.istore_n 2, 1) := by decide +kernel
theorem dX6_backOf_27 : decode cX6_backOf 27 = .ok (.iinc 3 1, 3) := by decide +kernel
theorem dX6_backOf_30 : decode cX6_backOf 30 = .ok (.goto (-26), 3) := by decide +kernel
theorem dX6_backOf_33 : decode cX6_backOf 33 = .ok (.iload_n 2, 1) := by decide +kernel
theorem dX6_backOf_34 : decode cX6_backOf 34 = .ok (.ireturn, 1) := by decide +kernel
set_option maxRecDepth 20000 in
theorem ggX6_back_X6_backOf : GoodIn wsX6_back wsX6_backOf := goodIn_r _ [9, 1, 10, 11, 12, 8, 13, 17, 18, 19, 20, 21, 22, 23, 24, 25, 26, 27, 28, 29, 30, 31, 32, 33, 34, 35, 36, 37, 38, 39, 40, 41] (by decide +kernel) (by decide +kernel)
set_option maxRecDepth 20000 in
theorem gX6_back_X6_backOf : GoodIn wsX6_back (wsV RX6 95 RX6 yX6_backOf wsX6_backOf) := goodIn_app (goodIn_of _ (by decide +kernel)) ggX6_back_X6_backOf
set_option maxRecDepth 20000 in
theorem ggX6_back_X6_in : GoodIn wsX6_back wsX6_in := goodIn_r _ [16] (by decide +kernel) (by decide +kernel)
set_option maxRecDepth 20000 in
theorem gX6_back_X6_in : GoodIn wsX6_back (va_wsS RX6 74 yX6_in wsX6_in) := goodIn_app (goodIn_of _ (by decide +kernel)) ggX6_back_X6_in
theorem dX6_back_0 : decode cX6_back 0 = .ok (.iconst 1, 1) := by decide +kernel
theorem dX6_back_1 : decode cX6_back 1 = .ok (.istore_n 1, 1) := by decide +kernel
theorem dX6_back_2 : decode cX6_back 2 = .ok (.iconst 0, 1) := by decide +kernel
theorem dX6_back_3 : decode cX6_back 3 = .ok (.istore_n 2, 1) := by decide +kernel
theorem dX6_back_4 : decode cX6_back 4 = .ok (.iload_n 2, 1) := by decide +kernel
theorem dX6_back_5 : decode cX6_back 5 = .ok (.aload_n 0, 1) := by decide +kernel
theorem dX6_back_6 : decode cX6_back 6 = .ok (.getfield 68, 3) := by decide +kernel
theorem dX6_back_9 : decode cX6_back 9 = .ok (.if_icmp .ge 53, 3) := by decide +kernel
theorem dX6_back_12 : decode cX6_back 12 = .ok (.aload_n 0, 1) := by decide +kernel
theorem dX6_back_13 : decode cX6_back 13 = .ok (.iload_n 2, 1) := by decide +kernel
theorem dX6_back_14 : decode cX6_back 14 = .ok (.invokevirtual 95, 3) := by decide +kernel
theorem dX6_back_17 : decode cX6_back 17 = .ok (.istore_n 3, 1) := by decide +kernel
theorem dX6_back_18 : decode cX6_back 18 = .ok (.iload_n 1, 1) := by decide +kernel
theorem dX6_back_19 : decode cX6_back 19 = .ok (.ifCond .eq 35, 3) := by decide +kernel
theorem dX6_back_22 : decode cX6_back 22 = .ok (.iload_n 3, 1) := by decide +kernel
theorem dX6_back_23 : decode cX6_back 23 = .ok (.aload_n 0, 1) := by decide +kernel
theorem dX6_back_24 : decode cX6_back 24 = .ok (.getfield 68, 3) := by decide +kernel
theorem dX6_back_27 : decode cX6_back 27 = .ok (.irem, 1) := by decide +kernel
theorem dX6_back_28 : decode cX6_back 28 = .ok (.ifCond .ne 26, 3) := by decide +kernel
theorem dX6_back_31 : decode cX6_back 31 = .ok (.iload_n 3, 1) := by decide +kernel
theorem dX6_back_32 : decode cX6_back 32 = .ok (.aload_n 0, 1) := by decide +kernel
theorem dX6_back_33 : decode cX6_back 33 = .ok (.getfield 68, 3) := by decide +kernel
theorem dX6_back_36 : decode cX6_back 36 = .ok (.idiv, 1) := by decide +kernel
theorem dX6_back_37 : decode cX6_back 37 = .ok (.i2l, 1) := by decide +kernel
theorem dX6_back_38 : decode cX6_back 38 = .ok (.ldc2_w 82, 3) := by decide +kernel
theorem dX6_back_41 : decode cX6_back 41 = .ok (.ldc2_w 84, 3) := by decide +kernel
theorem dX6_back_44 : decode cX6_back 44 = .ok (.invokestatic 74, 3) := by decide +kernel
theorem dX6_back_47 : decode cX6_back 47 = .ok (.ifCond .eq 7, 3) := by decide +kernel
theorem dX6_back_50 : decode cX6_back 50 = .ok (.iconst 1, 1) := by decide +kernel
theorem dX6_back_51 : decode cX6_back 51 = .ok (.goto 4, 3) := by decide +kernel
theorem dX6_back_54 : decode cX6_back 54 = .ok (.iconst 0, 1) := by decide +kernel
theorem dX6_back_55 : decode cX6_back 55 = .ok (.istore_n 1, 1) := by decide +kernel
theorem dX6_back_56 : decode cX6_back 56 = .ok (.iinc 2 1, 3) := by decide +kernel
theorem dX6_back_59 : decode cX6_back 59 = .ok (.goto (-55), 3) := by decide +kernel
theorem dX6_back_62 : decode cX6_back 62 = .ok (.iconst 0, 1) := by decide +kernel
theorem dX6_back_63 : decode cX6_back 63 = .ok (.istore_n 2, 1) := by decide +kernel
theorem dX6_back_64 : decode cX6_back 64 = .ok (.iload_n 2, 1) := by decide +kernel
theorem dX6_back_65 : decode cX6_back 65 = .ok (.aload_n 0, 1) := by decide +kernel
theorem dX6_back_66 : decode cX6_back 66 = .ok (.getfield 68, 3) := by decide +kernel
theorem dX6_back_69 : decode cX6_back 69 = .ok (.if_icmp .ge 29, 3) := by decide +kernel
theorem dX6_back_72 : decode cX6_back 72 = .ok (.iload_n 1, 1) := by decide +kernel
theorem dX6_back_73 : decode cX6_back 73 = .ok (.ifCond .eq 25, 3) := by decide +kernel
theorem dX6_back_76 : decode cX6_back 76 = .ok (.aload_n 0, 1) := by decide +kernel
theorem dX6_back_77 : decode cX6_back 77 = .ok (.getfield 7, 3) := by decide +kernel
theorem dX6_back_80 : decode cX6_back 80 = .ok (.iload_n 2, 1) := by decide +kernel
theorem dX6_back_81 : decode cX6_back 81 = .ok (.aload_n 0, 1) := by decide +kernel
theorem dX6_back_82 : decode cX6_back 82 = .ok (.iload_n 2, 1) := by decide +kernel
theorem dX6_back_83 : decode cX6_back 83 = .ok (.invokevirtual 95, 3) := by decide +kernel
theorem dX6_back_86 : decode cX6_back 86 = .ok (.aload_n 0, 1) := by decide +kernel
theorem dX6_back_87 : decode cX6_back 87 = .ok (.getfield 68, 3) := by decide +kernel
theorem dX6_back_90 : decode cX6_back 90 = .ok (.idiv, 1) := by decide +kernel
theorem dX6_back_91 : decode cX6_back 91 = .ok (.iastore, 1) := by decide +kernel
theorem dX6_back_92 : decode cX6_back 92 = .ok (.iinc 2 1, 3) := by decide +kernel
theorem dX6_back_95 : decode cX6_back 95 = .ok (.goto (-31), 3) := by decide +kernel
theorem dX6_back_98 : decode cX6_back 98 = .ok (.iload_n 1, 1) := by decide +kernel
theorem dX6_back_99 : decode cX6_back 99 = .ok (.ifCond .eq 7, 3) := by decide +kernel
theorem dX6_back_102 : decode cX6_back 102 = .ok (.iconst 1, 1) := by decide +kernel
theorem dX6_back_103 : decode cX6_back 103 = .ok (.goto 4, 3) := by decide +kernel
theorem dX6_back_106 : decode cX6_back 106 = .ok (.iconst 0, 1) := by decide +kernel
theorem dX6_back_107 : decode cX6_back 107 = .ok (.ireturn, 1) := by decide +kernel
set_option maxRecDepth 20000 in
theorem ggX6_tell_X6_isPlace : GoodIn wsX6_tell wsX6_isPlace := goodIn_r _ [10, 11, 12, 13, 9, 14, 15, 16, 17, 18, 19, 20, 21, 22, 23, 24, 25, 26, 27, 28, 29, 30, 31, 32, 33, 34, 35, 36, 37, 38, 39] (by decide +kernel) (by decide +kernel)
set_option maxRecDepth 20000 in
theorem gX6_tell_X6_isPlace : GoodIn wsX6_tell (wsV RX6 78 RX6 yX6_isPlace wsX6_isPlace) := goodIn_app (goodIn_of _ (by decide +kernel)) ggX6_tell_X6_isPlace
set_option maxRecDepth 20000 in
theorem ggX6_tell_X6_in : GoodIn wsX6_tell wsX6_in := goodIn_r _ [14] (by decide +kernel) (by decide +kernel)
set_option maxRecDepth 20000 in
theorem gX6_tell_X6_in : GoodIn wsX6_tell (va_wsS RX6 74 yX6_in wsX6_in) := goodIn_app (goodIn_of _ (by decide +kernel)) ggX6_tell_X6_in
theorem dX6_tell_0 : decode cX6_tell 0 = .ok (.aload_n 0, 1) := by decide +kernel
theorem dX6_tell_1 : decode cX6_tell 1 = .ok (.iload_n 1, 1) := by decide +kernel
theorem dX6_tell_2 : decode cX6_tell 2 = .ok (.invokevirtual 78, 3) := by decide +kernel
theorem dX6_tell_5 : decode cX6_tell 5 = .ok (.ifCond .ne 6, 3) := by decide +kernel
theorem dX6_tell_8 : decode cX6_tell 8 = .ok (.ldc 98, 2) := by decide +kernel
theorem dX6_tell_10 : decode cX6_tell 10 = .ok (.ireturn, 1) := by decide +kernel
theorem dX6_tell_11 : decode cX6_tell 11 = .ok (.iload_n 2, 1) := by decide +kernel
theorem dX6_tell_12 : decode cX6_tell 12 = .ok (.i2l, 1) := by decide +kernel
theorem dX6_tell_13 : decode cX6_tell 13 = .ok (.ldc2_w 99, 3) := by decide +kernel
theorem dX6_tell_16 : decode cX6_tell 16 = .ok (.ldc2_w 101, 3) := by decide +kernel
theorem dX6_tell_19 : decode cX6_tell 19 = .ok (.invokestatic 74, 3) := by decide +kernel
theorem dX6_tell_22 : decode cX6_tell 22 = .ok (.ifCond .ne 6, 3) := by decide +kernel
theorem dX6_tell_25 : decode cX6_tell 25 = .ok (.ldc 103, 2) := by decide +kernel
theorem dX6_tell_27 : decode cX6_tell 27 = .ok (.ireturn, 1) := by decide +kernel
theorem dX6_tell_28 : decode cX6_tell 28 = .ok (.aload_n 0, 1) := by decide +kernel
theorem dX6_tell_29 : decode cX6_tell 29 = .ok (.getfield 13, 3) := by decide +kernel
theorem dX6_tell_32 : decode cX6_tell 32 = .ok (.iload_n 1, 1) := by decide +kernel
theorem dX6_tell_33 : decode cX6_tell 33 = .ok (.iaload, 1) := by decide +kernel
theorem dX6_tell_34 : decode cX6_tell 34 = .ok (.istore_n 3, 1) := by decide +kernel
theorem dX6_tell_35 : decode cX6_tell 35 = .ok (.aload_n 0, 1) := by decide +kernel
theorem dX6_tell_36 : decode cX6_tell 36 = .ok (.getfield 13, 3) := by decide +kernel
theorem dX6_tell_39 : decode cX6_tell 39 = .ok (.iload_n 1, 1) := by decide +kernel
theorem dX6_tell_40 : decode cX6_tell 40 = .ok (.iload_n 2, 1) := by decide +kernel
theorem dX6_tell_41 : decode cX6_tell 41 = .ok (.iastore, 1) := by decide +kernel
theorem dX6_tell_42 : decode cX6_tell 42 = .ok (.iload_n 3, 1) := by decide +kernel
theorem dX6_tell_43 : decode cX6_tell 43 = .ok (.ireturn, 1) := by decide +kernel
set_option maxRecDepth 20000 in
theorem ggX6_probe_X6_isPlace : GoodIn wsX6_probe wsX6_isPlace := goodIn_r _ [8, 9, 10, 11, 7, 12, 13, 14, 15, 16, 17, 18, 19, 20, 21, 22, 23, 24, 25, 26, 27, 28, 29, 30, 31, 32, 33, 34, 35, 36, 37] (by decide +kernel) (by decide +kernel)
set_option maxRecDepth 20000 in
theorem gX6_probe_X6_isPlace : GoodIn wsX6_probe (wsV RX6 78 RX6 yX6_isPlace wsX6_isPlace) := goodIn_app (goodIn_of _ (by decide +kernel)) ggX6_probe_X6_isPlace
set_option maxRecDepth 20000 in
theorem ggX6_probe_X6_in : GoodIn wsX6_probe wsX6_in := goodIn_r _ [12] (by decide +kernel) (by decide +kernel)
set_option maxRecDepth 20000 in
theorem gX6_probe_X6_in : GoodIn wsX6_probe (va_wsS RX6 74 yX6_in wsX6_in) := goodIn_app (goodIn_of _ (by decide +kernel)) ggX6_probe_X6_in
theorem dX6_probe_0 : decode cX6_probe 0 = .ok (.aload_n 0, 1) := by decide +kernel
theorem dX6_probe_1 : decode cX6_probe 1 = .ok (.iload_n 1, 1) := by decide +kernel
theorem dX6_probe_2 : decode cX6_probe 2 = .ok (.invokevirtual 78, 3) := by decide +kernel
theorem dX6_probe_5 : decode cX6_probe 5 = .ok (.ifCond .ne 6, 3) := by decide +kernel
theorem dX6_probe_8 : decode cX6_probe 8 = .ok (.bipush (-101), 2) := by decide +kernel
theorem dX6_probe_10 : decode cX6_probe 10 = .ok (.ireturn, 1) := by decide +kernel
theorem dX6_probe_11 : decode cX6_probe 11 = .ok (.iload_n 2, 1) := by decide +kernel
theorem dX6_probe_12 : decode cX6_probe 12 = .ok (.i2l, 1) := by decide +kernel
theorem dX6_probe_13 : decode cX6_probe 13 = .ok (.ldc2_w 104, 3) := by decide +kernel
theorem dX6_probe_16 : decode cX6_probe 16 = .ok (.ldc2_w 106, 3) := by decide +kernel
theorem dX6_probe_19 : decode cX6_probe 19 = .ok (.invokestatic 74, 3) := by decide +kernel
theorem dX6_probe_22 : decode cX6_probe 22 = .ok (.ifCond .eq 7, 3) := by decide +kernel
theorem dX6_probe_25 : decode cX6_probe 25 = .ok (.iload_n 2, 1) := by decide +kernel
theorem dX6_probe_26 : decode cX6_probe 26 = .ok (.ifCond .ne 6, 3) := by decide +kernel
theorem dX6_probe_29 : decode cX6_probe 29 = .ok (.bipush (-102), 2) := by decide +kernel
theorem dX6_probe_31 : decode cX6_probe 31 = .ok (.ireturn, 1) := by decide +kernel
theorem dX6_probe_32 : decode cX6_probe 32 = .ok (.aload_n 0, 1) := by decide +kernel
theorem dX6_probe_33 : decode cX6_probe 33 = .ok (.getfield 16, 3) := by decide +kernel
theorem dX6_probe_36 : decode cX6_probe 36 = .ok (.iload_n 1, 1) := by decide +kernel
theorem dX6_probe_37 : decode cX6_probe 37 = .ok (.iaload, 1) := by decide +kernel
theorem dX6_probe_38 : decode cX6_probe 38 = .ok (.istore_n 3, 1) := by decide +kernel
theorem dX6_probe_39 : decode cX6_probe 39 = .ok (.aload_n 0, 1) := by decide +kernel
theorem dX6_probe_40 : decode cX6_probe 40 = .ok (.getfield 16, 3) := by decide +kernel
theorem dX6_probe_43 : decode cX6_probe 43 = .ok (.iload_n 1, 1) := by decide +kernel
theorem dX6_probe_44 : decode cX6_probe 44 = .ok (.iload_n 2, 1) := by decide +kernel
theorem dX6_probe_45 : decode cX6_probe 45 = .ok (.iastore, 1) := by decide +kernel
theorem dX6_probe_46 : decode cX6_probe 46 = .ok (.iload_n 3, 1) := by decide +kernel
theorem dX6_probe_47 : decode cX6_probe 47 = .ok (.ireturn, 1) := by decide +kernel
set_option maxRecDepth 20000 in
theorem ggX6_seen_X6_isPlace : GoodIn wsX6_seen wsX6_isPlace := goodIn_r _ [7, 8, 9, 10, 6, 11, 20, 21, 22, 23, 24, 25, 26, 27, 28, 29, 30, 31, 32, 33, 34, 35, 36, 37, 38, 39, 40, 41, 42, 43, 44] (by decide +kernel) (by decide +kernel)
set_option maxRecDepth 20000 in
theorem gX6_seen_X6_isPlace : GoodIn wsX6_seen (wsV RX6 78 RX6 yX6_isPlace wsX6_isPlace) := goodIn_app (goodIn_of _ (by decide +kernel)) ggX6_seen_X6_isPlace
set_option maxRecDepth 20000 in
theorem ggX6_seen_X6_farOf : GoodIn wsX6_seen wsX6_farOf := goodIn_r _ [15, 8, 16, 17, 18, 6, 19, 20, 21, 22, 23, 24, 25, 26, 27, 28, 29, 30, 31, 32, 33, 34, 35, 36, 37, 38, 39, 40, 41, 42, 43, 44] (by decide +kernel) (by decide +kernel)
set_option maxRecDepth 20000 in
theorem gX6_seen_X6_farOf : GoodIn wsX6_seen (wsV RX6 90 RX6 yX6_farOf wsX6_farOf) := goodIn_app (goodIn_of _ (by decide +kernel)) ggX6_seen_X6_farOf
theorem dX6_seen_0 : decode cX6_seen 0 = .ok (.aload_n 0, 1) := by decide +kernel
theorem dX6_seen_1 : decode cX6_seen 1 = .ok (.iload_n 1, 1) := by decide +kernel
theorem dX6_seen_2 : decode cX6_seen 2 = .ok (.invokevirtual 78, 3) := by decide +kernel
theorem dX6_seen_5 : decode cX6_seen 5 = .ok (.ifCond .eq 18, 3) := by decide +kernel
theorem dX6_seen_8 : decode cX6_seen 8 = .ok (.aload_n 0, 1) := by decide +kernel
theorem dX6_seen_9 : decode cX6_seen 9 = .ok (.iload_n 1, 1) := by decide +kernel
theorem dX6_seen_10 : decode cX6_seen 10 = .ok (.invokevirtual 90, 3) := by decide +kernel
theorem dX6_seen_13 : decode cX6_seen 13 = .ok (.aload_n 0, 1) := by decide +kernel
theorem dX6_seen_14 : decode cX6_seen 14 = .ok (.getfield 16, 3) := by decide +kernel
theorem dX6_seen_17 : decode cX6_seen 17 = .ok (.iload_n 1, 1) := by decide +kernel
theorem dX6_seen_18 : decode cX6_seen 18 = .ok (.iaload, 1) := by decide +kernel
theorem dX6_seen_19 : decode cX6_seen 19 = .ok (.imul, 1) := by decide +kernel
theorem dX6_seen_20 : decode cX6_seen 20 = .ok (.goto 5, 3) := by decide +kernel
theorem dX6_seen_23 : decode cX6_seen 23 = .ok (.ldc 98, 2) := by decide +kernel
theorem dX6_seen_25 : decode cX6_seen 25 = .ok (.ireturn, 1) := by decide +kernel
theorem dX6_unprobe_0 : decode cX6_unprobe 0 = .ok (.iconst 1, 1) := by decide +kernel
theorem dX6_unprobe_1 : decode cX6_unprobe 1 = .ok (.istore_n 1, 1) := by decide +kernel
theorem dX6_unprobe_2 : decode cX6_unprobe 2 = .ok (.iconst 0, 1) := by decide +kernel
theorem dX6_unprobe_3 : decode cX6_unprobe 3 = .ok (.istore_n 2, 1) := by decide +kernel
theorem dX6_unprobe_4 : decode cX6_unprobe 4 = .ok (.iload_n 2, 1) := by decide +kernel
theorem dX6_unprobe_5 : decode cX6_unprobe 5 = .ok (.aload_n 0, 1) := by decide +kernel
theorem dX6_unprobe_6 : decode cX6_unprobe 6 = .ok (.getfield 68, 3) := by decide +kernel
theorem dX6_unprobe_9 : decode cX6_unprobe 9 = .ok (.if_icmp .ge 35, 3) := by decide +kernel
theorem dX6_unprobe_12 : decode cX6_unprobe 12 = .ok (.iload_n 1, 1) := by decide +kernel
theorem dX6_unprobe_13 : decode cX6_unprobe 13 = .ok (.ifCond .eq 23, 3) := by decide +kernel
theorem dX6_unprobe_16 : decode cX6_unprobe 16 = .ok (.aload_n 0, 1) := by decide +kernel
theorem dX6_unprobe_17 : decode cX6_unprobe 17 = .ok (.getfield 13, 3) := by decide +kernel
theorem dX6_unprobe_20 : decode cX6_unprobe 20 = .ok (.iload_n 2, 1) := by decide +kernel
theorem dX6_unprobe_21 : decode cX6_unprobe 21 = .ok (.iaload, 1) := by decide +kernel
theorem dX6_unprobe_22 : decode cX6_unprobe 22 = .ok (.aload_n 0, 1) := by decide +kernel
theorem dX6_unprobe_23 : decode cX6_unprobe 23 = .ok (.getfield 16, 3) := by decide +kernel
theorem dX6_unprobe_26 : decode cX6_unprobe 26 = .ok (.iload_n 2, 1) := by decide +kernel
theorem dX6_unprobe_27 : decode cX6_unprobe 27 = .ok (.iaload, 1) := by decide +kernel
theorem dX6_unprobe_28 : decode cX6_unprobe 28 = .ok (.irem, 1) := by decide +kernel
theorem dX6_unprobe_29 : decode cX6_unprobe 29 = .ok (.ifCond .ne 7, 3) := by decide +kernel
theorem dX6_unprobe_32 : decode cX6_unprobe 32 = .ok (.iconst 1, 1) := by decide +kernel
theorem dX6_unprobe_33 : decode cX6_unprobe 33 = .ok (.goto 4, 3) := by decide +kernel
theorem dX6_unprobe_36 : decode cX6_unprobe 36 = .ok (.iconst 0, 1) := by decide +kernel
theorem dX6_unprobe_37 : decode cX6_unprobe 37 = .ok (.istore_n 1, 1) := by decide +kernel
theorem dX6_unprobe_38 : decode cX6_unprobe 38 = .ok (.iinc 2 1, 3) := by decide +kernel
theorem dX6_unprobe_41 : decode cX6_unprobe 41 = .ok (.goto (-37), 3) := by decide +kernel
theorem dX6_unprobe_44 : decode cX6_unprobe 44 = .ok (.iconst 0, 1) := by decide +kernel
theorem dX6_unprobe_45 : decode cX6_unprobe 45 = .ok (.istore_n 2, 1) := by decide +kernel
theorem dX6_unprobe_46 : decode cX6_unprobe 46 = .ok (.iload_n 2, 1) := by decide +kernel
theorem dX6_unprobe_47 : decode cX6_unprobe 47 = .ok (.aload_n 0, 1) := by decide +kernel
theorem dX6_unprobe_48 : decode cX6_unprobe 48 = .ok (.getfield 68, 3) := by decide +kernel
theorem dX6_unprobe_51 : decode cX6_unprobe 51 = .ok (.if_icmp .ge 28, 3) := by decide +kernel
theorem dX6_unprobe_54 : decode cX6_unprobe 54 = .ok (.iload_n 1, 1) := by decide +kernel
theorem dX6_unprobe_55 : decode cX6_unprobe 55 = .ok (.ifCond .eq 24, 3) := by decide +kernel
theorem dX6_unprobe_58 : decode cX6_unprobe 58 = .ok (.aload_n 0, 1) := by decide +kernel
theorem dX6_unprobe_59 : decode cX6_unprobe 59 = .ok (.getfield 13, 3) := by decide +kernel
theorem dX6_unprobe_62 : decode cX6_unprobe 62 = .ok (.iload_n 2, 1) := by decide +kernel
theorem dX6_unprobe_63 : decode cX6_unprobe 63 = .ok (.dup2, 1) := by decide +kernel
theorem dX6_unprobe_64 : decode cX6_unprobe 64 = .ok (.iaload, 1) := by decide +kernel
theorem dX6_unprobe_65 : decode cX6_unprobe 65 = .ok (.aload_n 0, 1) := by decide +kernel
theorem dX6_unprobe_66 : decode cX6_unprobe 66 = .ok (.getfield 16, 3) := by decide +kernel
theorem dX6_unprobe_69 : decode cX6_unprobe 69 = .ok (.iload_n 2, 1) := by decide +kernel
theorem dX6_unprobe_70 : decode cX6_unprobe 70 = .ok (.iaload, 1) := by decide +kernel
theorem dX6_unprobe_71 : decode cX6_unprobe 71 = .ok (.idiv, 1) := by decide +kernel
theorem dX6_unprobe_72 : decode cX6_unprobe 72 = .ok (.iastore, 1) := by decide +kernel
theorem dX6_unprobe_73 : decode cX6_unprobe 73 = .ok (.iinc 2 1, 3) := by decide +kernel
theorem dX6_unprobe_76 : decode cX6_unprobe 76 = .ok (.goto (-30), 3) := by decide +kernel
theorem dX6_unprobe_79 : decode cX6_unprobe 79 = .ok (.iload_n 1, 1) := by decide +kernel
theorem dX6_unprobe_80 : decode cX6_unprobe 80 = .ok (.ifCond .eq 7, 3) := by decide +kernel
theorem dX6_unprobe_83 : decode cX6_unprobe 83 = .ok (.iconst 1, 1) := by decide +kernel
theorem dX6_unprobe_84 : decode cX6_unprobe 84 = .ok (.goto 4, 3) := by decide +kernel
theorem dX6_unprobe_87 : decode cX6_unprobe 87 = .ok (.iconst 0, 1) := by decide +kernel
theorem dX6_unprobe_88 : decode cX6_unprobe 88 = .ok (.ireturn, 1) := by decide +kernel
set_option maxRecDepth 20000 in
theorem ggX6_isGate_X6_in : GoodIn wsX6_isGate wsX6_in := goodIn_r _ [5] (by decide +kernel) (by decide +kernel)
set_option maxRecDepth 20000 in
theorem gX6_isGate_X6_in : GoodIn wsX6_isGate (va_wsS RX6 74 yX6_in wsX6_in) := goodIn_app (goodIn_of _ (by decide +kernel)) ggX6_isGate_X6_in
theorem dX6_isGate_0 : decode cX6_isGate 0 = .ok (.iload_n 0, 1) := by decide +kernel
theorem dX6_isGate_1 : decode cX6_isGate 1 = .ok (.i2l, 1) := by decide +kernel
theorem dX6_isGate_2 : decode cX6_isGate 2 = .ok (.lconst 0, 1) := by decide +kernel
theorem dX6_isGate_3 : decode cX6_isGate 3 = .ok (.ldc2_w 108, 3) := by decide +kernel
theorem dX6_isGate_6 : decode cX6_isGate 6 = .ok (.invokestatic 74, 3) := by decide +kernel
theorem dX6_isGate_9 : decode cX6_isGate 9 = .ok (.ifCond .eq 19, 3) := by decide +kernel
theorem dX6_isGate_12 : decode cX6_isGate 12 = .ok (.iload_n 1, 1) := by decide +kernel
theorem dX6_isGate_13 : decode cX6_isGate 13 = .ok (.i2l, 1) := by decide +kernel
theorem dX6_isGate_14 : decode cX6_isGate 14 = .ok (.lconst 0, 1) := by decide +kernel
theorem dX6_isGate_15 : decode cX6_isGate 15 = .ok (.ldc2_w 108, 3) := by decide +kernel
theorem dX6_isGate_18 : decode cX6_isGate 18 = .ok (.invokestatic 74, 3) := by decide +kernel
theorem dX6_isGate_21 : decode cX6_isGate 21 = .ok (.ifCond .eq 7, 3) := by decide +kernel
theorem dX6_isGate_24 : decode cX6_isGate 24 = .ok (.iconst 1, 1) := by decide +kernel
theorem dX6_isGate_25 : decode cX6_isGate 25 = .ok (.goto 4, 3) := by decide +kernel
theorem dX6_isGate_28 : decode cX6_isGate 28 = .ok (.iconst 0, 1) := by decide +kernel
theorem dX6_isGate_29 : decode cX6_isGate 29 = .ok (.ireturn, 1) := by decide +kernel
theorem dX6_passes_0 : decode cX6_passes 0 = .ok (.iload_n 0, 1) := by decide +kernel
theorem dX6_passes_1 : decode cX6_passes 1 = .ok (.iload_n 1, 1) := by decide +kernel
theorem dX6_passes_2 : decode cX6_passes 2 = .ok (.iand, 1) := by decide +kernel
theorem dX6_passes_3 : decode cX6_passes 3 = .ok (.iload_n 2, 1) := by decide +kernel
theorem dX6_passes_4 : decode cX6_passes 4 = .ok (.iload_n 1, 1) := by decide +kernel
theorem dX6_passes_5 : decode cX6_passes 5 = .ok (.iand, 1) := by decide +kernel
theorem dX6_passes_6 : decode cX6_passes 6 = .ok (.if_icmp .ne 7, 3) := by decide +kernel
theorem dX6_passes_9 : decode cX6_passes 9 = .ok (.iconst 1, 1) := by decide +kernel
theorem dX6_passes_10 : decode cX6_passes 10 = .ok (.goto 4, 3) := by decide +kernel
theorem dX6_passes_13 : decode cX6_passes 13 = .ok (.iconst 0, 1) := by decide +kernel
theorem dX6_passes_14 : decode cX6_passes 14 = .ok (.ireturn, 1) := by decide +kernel
set_option maxRecDepth 20000 in
theorem ggX6_gated_X6_isPlace : GoodIn wsX6_gated wsX6_isPlace := goodIn_r _ [8, 3, 9, 10, 7, 11, 27, 28, 29, 30, 31, 32, 33, 34, 35, 36, 37, 38, 39, 40, 41, 42, 43, 44, 45, 46, 47, 48, 49, 50, 51] (by decide +kernel) (by decide +kernel)
set_option maxRecDepth 20000 in
theorem gX6_gated_X6_isPlace : GoodIn wsX6_gated (wsV RX6 78 RX6 yX6_isPlace wsX6_isPlace) := goodIn_app (goodIn_of _ (by decide +kernel)) ggX6_gated_X6_isPlace
set_option maxRecDepth 20000 in
theorem ggX6_gated_X6_isGate : GoodIn wsX6_gated wsX6_isGate := goodIn_r _ [14, 15, 9, 10, 7, 11] (by decide +kernel) (by decide +kernel)
set_option maxRecDepth 20000 in
theorem gX6_gated_X6_isGate : GoodIn wsX6_gated (va_wsS RX6 110 yX6_isGate wsX6_isGate) := goodIn_app (goodIn_of _ (by decide +kernel)) ggX6_gated_X6_isGate
set_option maxRecDepth 20000 in
theorem ggX6_gated_X6_passes : GoodIn wsX6_gated wsX6_passes := goodIn_r _ [18] (by decide +kernel) (by decide +kernel)
set_option maxRecDepth 20000 in
theorem gX6_gated_X6_passes : GoodIn wsX6_gated (va_wsS RX6 114 yX6_passes wsX6_passes) := goodIn_app (goodIn_of _ (by decide +kernel)) ggX6_gated_X6_passes
set_option maxRecDepth 20000 in
theorem ggX6_gated_X6_farOf : GoodIn wsX6_gated wsX6_farOf := goodIn_r _ [22, 3, 23, 24, 25, 7, 26, 27, 28, 29, 30, 31, 32, 33, 34, 35, 36, 37, 38, 39, 40, 41, 42, 43, 44, 45, 46, 47, 48, 49, 50, 51] (by decide +kernel) (by decide +kernel)
set_option maxRecDepth 20000 in
theorem gX6_gated_X6_farOf : GoodIn wsX6_gated (wsV RX6 90 RX6 yX6_farOf wsX6_farOf) := goodIn_app (goodIn_of _ (by decide +kernel)) ggX6_gated_X6_farOf
set_option maxRecDepth 20000 in
theorem ggX6_gated_X6_sign : GoodIn wsX6_gated wsX6_sign := goodIn_r _ [26] (by decide +kernel) (by decide +kernel)
set_option maxRecDepth 20000 in
theorem gX6_gated_X6_sign : GoodIn wsX6_gated (va_wsS RX6 86 yX6_sign wsX6_sign) := goodIn_app (goodIn_of _ (by decide +kernel)) ggX6_gated_X6_sign
theorem dX6_gated_0 : decode cX6_gated 0 = .ok (.aload_n 0, 1) := by decide +kernel
theorem dX6_gated_1 : decode cX6_gated 1 = .ok (.iload_n 1, 1) := by decide +kernel
theorem dX6_gated_2 : decode cX6_gated 2 = .ok (.invokevirtual 78, 3) := by decide +kernel
theorem dX6_gated_5 : decode cX6_gated 5 = .ok (.ifCond .ne 6, 3) := by decide +kernel
theorem dX6_gated_8 : decode cX6_gated 8 = .ok (.ldc 98, 2) := by decide +kernel
theorem dX6_gated_10 : decode cX6_gated 10 = .ok (.ireturn, 1) := by decide +kernel
theorem dX6_gated_11 : decode cX6_gated 11 = .ok (.iload_n 2, 1) := by decide +kernel
theorem dX6_gated_12 : decode cX6_gated 12 = .ok (.iload_n 3, 1) := by decide +kernel
theorem dX6_gated_13 : decode cX6_gated 13 = .ok (.invokestatic 110, 3) := by decide +kernel
theorem dX6_gated_16 : decode cX6_gated 16 = .ok (.ifCond .ne 6, 3) := by decide +kernel
theorem dX6_gated_19 : decode cX6_gated 19 = .ok (.ldc 103, 2) := by decide +kernel
theorem dX6_gated_21 : decode cX6_gated 21 = .ok (.ireturn, 1) := by decide +kernel
theorem dX6_gated_22 : decode cX6_gated 22 = .ok (.iconst 0, 1) := by decide +kernel
theorem dX6_gated_23 : decode cX6_gated 23 = .ok (.istore 4, 2) := by decide +kernel
theorem dX6_gated_25 : decode cX6_gated 25 = .ok (.iconst 0, 1) := by decide +kernel
theorem dX6_gated_26 : decode cX6_gated 26 = .ok (.istore 5, 2) := by decide +kernel
theorem dX6_gated_28 : decode cX6_gated 28 = .ok (.iload 5, 2) := by decide +kernel
theorem dX6_gated_30 : decode cX6_gated 30 = .ok (.aload_n 0, 1) := by decide +kernel
theorem dX6_gated_31 : decode cX6_gated 31 = .ok (.getfield 68, 3) := by decide +kernel
theorem dX6_gated_34 : decode cX6_gated 34 = .ok (.if_icmp .ge 41, 3) := by decide +kernel
theorem dX6_gated_37 : decode cX6_gated 37 = .ok (.iload 4, 2) := by decide +kernel
theorem dX6_gated_39 : decode cX6_gated 39 = .ok (.iload 5, 2) := by decide +kernel
theorem dX6_gated_41 : decode cX6_gated 41 = .ok (.iload_n 2, 1) := by decide +kernel
theorem dX6_gated_42 : decode cX6_gated 42 = .ok (.iload_n 3, 1) := by decide +kernel
theorem dX6_gated_43 : decode cX6_gated 43 = .ok (.invokestatic 114, 3) := by decide +kernel
theorem dX6_gated_46 : decode cX6_gated 46 = .ok (.ifCond .eq 19, 3) := by decide +kernel
theorem dX6_gated_49 : decode cX6_gated 49 = .ok (.aload_n 0, 1) := by decide +kernel
theorem dX6_gated_50 : decode cX6_gated 50 = .ok (.iload 5, 2) := by decide +kernel
theorem dX6_gated_52 : decode cX6_gated 52 = .ok (.invokevirtual 90, 3) := by decide +kernel
theorem dX6_gated_55 : decode cX6_gated 55 = .ok (.iload_n 1, 1) := by decide +kernel
theorem dX6_gated_56 : decode cX6_gated 56 = .ok (.iload 5, 2) := by decide +kernel
theorem dX6_gated_58 : decode cX6_gated 58 = .ok (.invokestatic 86, 3) := by decide +kernel
theorem dX6_gated_61 : decode cX6_gated 61 = .ok (.imul, 1) := by decide +kernel
theorem dX6_gated_62 : decode cX6_gated 62 = .ok (.goto 4, 3) := by decide +kernel
theorem dX6_gated_65 : decode cX6_gated 65 = .ok (.iconst 0, 1) := by decide +kernel
theorem dX6_gated_66 : decode cX6_gated 66 = .ok (.iadd, 1) := by decide +kernel
theorem dX6_gated_67 : decode cX6_gated 67 = .ok (.istore 4, 2) := by decide +kernel
theorem dX6_gated_69 : decode cX6_gated 69 = .ok (.iinc 5 1, 3) := by decide +kernel
theorem dX6_gated_72 : decode cX6_gated 72 = .ok (.goto (-44), 3) := by decide +kernel
theorem dX6_gated_75 : decode cX6_gated 75 = .ok (.iload 4, 2) := by decide +kernel
theorem dX6_gated_77 : decode cX6_gated 77 = .ok (.ireturn, 1) := by decide +kernel
set_option maxRecDepth 20000 in
theorem ggX6_power_X6_isGate : GoodIn wsX6_power wsX6_isGate := goodIn_r _ [6, 7, 8, 9, 5, 10] (by decide +kernel) (by decide +kernel)
set_option maxRecDepth 20000 in
theorem gX6_power_X6_isGate : GoodIn wsX6_power (va_wsS RX6 110 yX6_isGate wsX6_isGate) := goodIn_app (goodIn_of _ (by decide +kernel)) ggX6_power_X6_isGate
set_option maxRecDepth 20000 in
theorem ggX6_power_X6_farOf : GoodIn wsX6_power wsX6_farOf := goodIn_r _ [14, 2, 15, 16, 17, 5, 18, 22, 23, 24, 25, 26, 27, 28, 29, 30, 31, 32, 33, 34, 35, 36, 37, 38, 39, 40, 41, 42, 43, 44, 45, 46] (by decide +kernel) (by decide +kernel)
set_option maxRecDepth 20000 in
theorem gX6_power_X6_farOf : GoodIn wsX6_power (wsV RX6 90 RX6 yX6_farOf wsX6_farOf) := goodIn_app (goodIn_of _ (by decide +kernel)) ggX6_power_X6_farOf
set_option maxRecDepth 20000 in
theorem ggX6_power_X6_passes : GoodIn wsX6_power wsX6_passes := goodIn_r _ [21] (by decide +kernel) (by decide +kernel)
set_option maxRecDepth 20000 in
theorem gX6_power_X6_passes : GoodIn wsX6_power (va_wsS RX6 114 yX6_passes wsX6_passes) := goodIn_app (goodIn_of _ (by decide +kernel)) ggX6_power_X6_passes
theorem dX6_power_0 : decode cX6_power 0 = .ok (.iload_n 1, 1) := by decide +kernel
theorem dX6_power_1 : decode cX6_power 1 = .ok (.iload_n 2, 1) := by decide +kernel
theorem dX6_power_2 : decode cX6_power 2 = .ok (.invokestatic 110, 3) := by decide +kernel
theorem dX6_power_5 : decode cX6_power 5 = .ok (.ifCond .ne 7, 3) := by decide +kernel
theorem dX6_power_8 : decode cX6_power 8 = .ok (.ldc2_w 118, 3) := by decide +kernel
theorem dX6_power_11 : decode cX6_power 11 = .ok (.lreturn, 1) := by decide +kernel
theorem dX6_power_12 : decode cX6_power 12 = .ok (.lconst 0, 1) := by decide +kernel
theorem dX6_power_13 : decode cX6_power 13 = .ok (.lstore_n 3, 1) := by decide +kernel
theorem dX6_power_14 : decode cX6_power 14 = .ok (.iconst 0, 1) := by decide +kernel
theorem dX6_power_15 : decode cX6_power 15 = .ok (.istore 5, 2) := by decide +kernel
theorem dX6_power_17 : decode cX6_power 17 = .ok (.iload 5, 2) := by decide +kernel
theorem dX6_power_19 : decode cX6_power 19 = .ok (.aload_n 0, 1) := by decide +kernel
theorem dX6_power_20 : decode cX6_power 20 = .ok (.getfield 68, 3) := by decide +kernel
theorem dX6_power_23 : decode cX6_power 23 = .ok (.if_icmp .ge 40, 3) := by decide +kernel
theorem dX6_power_26 : decode cX6_power 26 = .ok (.aload_n 0, 1) := by decide +kernel
theorem dX6_power_27 : decode cX6_power 27 = .ok (.iload 5, 2) := by decide +kernel
theorem dX6_power_29 : decode cX6_power 29 = .ok (.invokevirtual 90, 3) := by decide +kernel
theorem dX6_power_32 : decode cX6_power 32 = .ok (.i2l, 1) := by decide +kernel
theorem dX6_power_33 : decode cX6_power 33 = .ok (.lstore 6, 2) := by decide +kernel
theorem dX6_power_35 : decode cX6_power 35 = .ok (.lload_n 3, 1) := by decide +kernel
theorem dX6_power_36 : decode cX6_power 36 = .ok (.iload 5, 2) := by decide +kernel
theorem dX6_power_38 : decode cX6_power 38 = .ok (.iload_n 1, 1) := by decide +kernel
theorem dX6_power_39 : decode cX6_power 39 = .ok (.iload_n 2, 1) := by decide +kernel
theorem dX6_power_40 : decode cX6_power 40 = .ok (.invokestatic 114, 3) := by decide +kernel
theorem dX6_power_43 : decode cX6_power 43 = .ok (.ifCond .eq 11, 3) := by decide +kernel
theorem dX6_power_46 : decode cX6_power 46 = .ok (.lload 6, 2) := by decide +kernel
theorem dX6_power_48 : decode cX6_power 48 = .ok (.lload 6, 2) := by decide +kernel
theorem dX6_power_50 : decode cX6_power 50 = .ok (.lmul, 1) := by decide +kernel
theorem dX6_power_51 : decode cX6_power 51 = .ok (.goto 4, 3) := by decide +kernel
theorem dX6_power_54 : decode cX6_power 54 = .ok (.lconst 0, 1) := by decide +kernel
theorem dX6_power_55 : decode cX6_power 55 = .ok (.ladd, 1) := by decide +kernel
theorem dX6_power_56 : decode cX6_power 56 = .ok (.lstore_n 3, 1) := by decide +kernel
theorem dX6_power_57 : decode cX6_power 57 = .ok (.iinc 5 1, 3) := by decide +kernel
theorem dX6_power_60 : decode cX6_power 60 = .ok (.goto (-43), 3) := by decide +kernel
theorem dX6_power_63 : decode cX6_power 63 = .ok (.lload_n 3, 1) := by decide +kernel
theorem dX6_power_64 : decode cX6_power 64 = .ok (.lreturn, 1) := by decide +kernel
theorem dX6_lostMany_0 : decode cX6_lostMany 0 = .ok (.iconst 0, 1) := by decide +kernel
theorem dX6_lostMany_1 : decode cX6_lostMany 1 = .ok (.istore_n 1, 1) := by decide +kernel
theorem dX6_lostMany_2 : decode cX6_lostMany 2 = .ok (.iconst 0, 1) := by decide +kernel
theorem dX6_lostMany_3 : decode cX6_lostMany 3 = .ok (.istore_n 2, 1) := by decide +kernel
theorem dX6_lostMany_4 : decode cX6_lostMany 4 = .ok (.iload_n 2, 1) := by decide +kernel
theorem dX6_lostMany_5 : decode cX6_lostMany 5 = .ok (.aload_n 0, 1) := by decide +kernel
theorem dX6_lostMany_6 : decode cX6_lostMany 6 = .ok (.getfield 68, 3) := by decide +kernel
theorem dX6_lostMany_9 : decode cX6_lostMany 9 = .ok (.if_icmp .ge 26, 3) := by decide +kernel
theorem dX6_lostMany_12 : decode cX6_lostMany 12 = .ok (.iload_n 1, 1) := by decide +kernel
theorem dX6_lostMany_13 : decode cX6_lostMany 13 = .ok (.aload_n 0, 1) := by decide +kernel
theorem dX6_lostMany_14 : decode cX6_lostMany 14 = .ok (.getfield 19, 3) := by decide +kernel
theorem dX6_lostMany_17 : decode cX6_lostMany 17 = .ok (.iload_n 2, 1) := by decide +kernel
theorem dX6_lostMany_18 : decode cX6_lostMany 18 = .ok (.baload, 1) := by decide +kernel
theorem dX6_lostMany_19 : decode cX6_lostMany 19 = .ok (.ifCond .eq 7, 3) := by decide +kernel
theorem dX6_lostMany_22 : decode cX6_lostMany 22 = .ok (.iconst 1, 1) := by decide +kernel
theorem dX6_lostMany_23 : decode cX6_lostMany 23 = .ok (.goto 4, 3) := by decide +kernel
theorem dX6_lostMany_26 : decode cX6_lostMany 26 = .ok (.iconst 0, 1) := by decide +kernel
theorem dX6_lostMany_27 : decode cX6_lostMany 27 = .ok (.iadd, 1) := by decide +kernel
theorem dX6_lostMany_28 : decode cX6_lostMany 28 = .ok (.istore_n 1, 1) := by decide +kernel
theorem dX6_lostMany_29 : decode cX6_lostMany 29 = .ok (.iinc 2 1, 3) := by decide +kernel
theorem dX6_lostMany_32 : decode cX6_lostMany 32 = .ok (.goto (-28), 3) := by decide +kernel
theorem dX6_lostMany_35 : decode cX6_lostMany 35 = .ok (.iload_n 1, 1) := by decide +kernel
theorem dX6_lostMany_36 : decode cX6_lostMany 36 = .ok (.ireturn, 1) := by decide +kernel
set_option maxRecDepth 20000 in
theorem ggX6_lose_X6_isPlace : GoodIn wsX6_lose wsX6_isPlace := goodIn_r _ [6, 7, 8, 9, 5, 10, 15, 16, 17, 18, 19, 20, 21, 22, 23, 24, 25, 26, 27, 28, 29, 30, 31, 32, 33, 34, 35, 36, 37, 38, 39] (by decide +kernel) (by decide +kernel)
set_option maxRecDepth 20000 in
theorem gX6_lose_X6_isPlace : GoodIn wsX6_lose (wsV RX6 78 RX6 yX6_isPlace wsX6_isPlace) := goodIn_app (goodIn_of _ (by decide +kernel)) ggX6_lose_X6_isPlace
set_option maxRecDepth 20000 in
theorem ggX6_lose_X6_lostMany : GoodIn wsX6_lose wsX6_lostMany := goodIn_r _ [14, 7, 1, 15, 16, 17, 18, 19, 20, 21, 22, 23, 24, 25, 26, 27, 28, 29, 30, 31, 32, 33, 34, 35, 36, 37, 38, 39] (by decide +kernel) (by decide +kernel)
set_option maxRecDepth 20000 in
theorem gX6_lose_X6_lostMany : GoodIn wsX6_lose (wsV RX6 120 RX6 yX6_lostMany wsX6_lostMany) := goodIn_app (goodIn_of _ (by decide +kernel)) ggX6_lose_X6_lostMany
theorem dX6_lose_0 : decode cX6_lose 0 = .ok (.aload_n 0, 1) := by decide +kernel
theorem dX6_lose_1 : decode cX6_lose 1 = .ok (.iload_n 1, 1) := by decide +kernel
theorem dX6_lose_2 : decode cX6_lose 2 = .ok (.invokevirtual 78, 3) := by decide +kernel
theorem dX6_lose_5 : decode cX6_lose 5 = .ok (.ifCond .ne 6, 3) := by decide +kernel
theorem dX6_lose_8 : decode cX6_lose 8 = .ok (.bipush (-101), 2) := by decide +kernel
theorem dX6_lose_10 : decode cX6_lose 10 = .ok (.ireturn, 1) := by decide +kernel
theorem dX6_lose_11 : decode cX6_lose 11 = .ok (.iload_n 2, 1) := by decide +kernel
theorem dX6_lose_12 : decode cX6_lose 12 = .ok (.ifCond .eq 23, 3) := by decide +kernel
theorem dX6_lose_15 : decode cX6_lose 15 = .ok (.aload_n 0, 1) := by decide +kernel
theorem dX6_lose_16 : decode cX6_lose 16 = .ok (.getfield 19, 3) := by decide +kernel
theorem dX6_lose_19 : decode cX6_lose 19 = .ok (.iload_n 1, 1) := by decide +kernel
theorem dX6_lose_20 : decode cX6_lose 20 = .ok (.baload, 1) := by decide +kernel
theorem dX6_lose_21 : decode cX6_lose 21 = .ok (.ifCond .ne 14, 3) := by decide +kernel
theorem dX6_lose_24 : decode cX6_lose 24 = .ok (.aload_n 0, 1) := by decide +kernel
theorem dX6_lose_25 : decode cX6_lose 25 = .ok (.invokevirtual 120, 3) := by decide +kernel
theorem dX6_lose_28 : decode cX6_lose 28 = .ok (.iconst 5, 1) := by decide +kernel
theorem dX6_lose_29 : decode cX6_lose 29 = .ok (.if_icmp .ne 6, 3) := by decide +kernel
theorem dX6_lose_32 : decode cX6_lose 32 = .ok (.bipush (-104), 2) := by decide +kernel
theorem dX6_lose_34 : decode cX6_lose 34 = .ok (.ireturn, 1) := by decide +kernel
theorem dX6_lose_35 : decode cX6_lose 35 = .ok (.aload_n 0, 1) := by decide +kernel
theorem dX6_lose_36 : decode cX6_lose 36 = .ok (.getfield 19, 3) := by decide +kernel
theorem dX6_lose_39 : decode cX6_lose 39 = .ok (.iload_n 1, 1) := by decide +kernel
theorem dX6_lose_40 : decode cX6_lose 40 = .ok (.baload, 1) := by decide +kernel
theorem dX6_lose_41 : decode cX6_lose 41 = .ok (.ifCond .eq 7, 3) := by decide +kernel
theorem dX6_lose_44 : decode cX6_lose 44 = .ok (.iconst 1, 1) := by decide +kernel
theorem dX6_lose_45 : decode cX6_lose 45 = .ok (.goto 4, 3) := by decide +kernel
theorem dX6_lose_48 : decode cX6_lose 48 = .ok (.iconst 0, 1) := by decide +kernel
theorem dX6_lose_49 : decode cX6_lose 49 = .ok (.istore_n 3, 1) := by decide +kernel
theorem dX6_lose_50 : decode cX6_lose 50 = .ok (.aload_n 0, 1) := by decide +kernel
theorem dX6_lose_51 : decode cX6_lose 51 = .ok (.getfield 19, 3) := by decide +kernel
theorem dX6_lose_54 : decode cX6_lose 54 = .ok (.iload_n 1, 1) := by decide +kernel
theorem dX6_lose_55 : decode cX6_lose 55 = .ok (.iload_n 2, 1) := by decide +kernel
theorem dX6_lose_56 : decode cX6_lose 56 = .ok (.bastore, 1) := by decide +kernel
theorem dX6_lose_57 : decode cX6_lose 57 = .ok (.iload_n 3, 1) := by decide +kernel
theorem dX6_lose_58 : decode cX6_lose 58 = .ok (.ireturn, 1) := by decide +kernel
set_option maxRecDepth 20000 in
theorem ggX6_solve_X6_passes : GoodIn wsX6_solve wsX6_passes := goodIn_r _ [12] (by decide +kernel) (by decide +kernel)
set_option maxRecDepth 20000 in
theorem gX6_solve_X6_passes : GoodIn wsX6_solve (va_wsS RX6 114 yX6_passes wsX6_passes) := goodIn_app (goodIn_of _ (by decide +kernel)) ggX6_solve_X6_passes
set_option maxRecDepth 20000 in
theorem ggX6_solve_X6_sign : GoodIn wsX6_solve wsX6_sign := goodIn_r _ [15] (by decide +kernel) (by decide +kernel)
set_option maxRecDepth 20000 in
theorem gX6_solve_X6_sign : GoodIn wsX6_solve (va_wsS RX6 86 yX6_sign wsX6_sign) := goodIn_app (goodIn_of _ (by decide +kernel)) ggX6_solve_X6_sign
set_option maxRecDepth 20000 in
theorem ggX6_solve_X6_turn : GoodIn wsX6_solve wsX6_turn := goodIn_r _ [19, 7, 27, 28, 29, 30, 31, 32, 33, 34, 35, 36, 37, 38, 39, 40, 41, 42, 43, 44, 45, 46, 47, 48, 49, 50, 51] (by decide +kernel) (by decide +kernel)
set_option maxRecDepth 20000 in
theorem gX6_solve_X6_turn : GoodIn wsX6_solve (wsV RX6 130 RX6 yX6_turn wsX6_turn) := goodIn_app (goodIn_of _ (by decide +kernel)) ggX6_solve_X6_turn
set_option maxRecDepth 20000 in
theorem ggX6_solve_X6_clear : GoodIn wsX6_solve wsX6_clear := goodIn_r _ [23, 7, 1, 24, 25, 11, 26, 27, 28, 29, 30, 31, 32, 33, 34, 35, 36, 37, 38, 39, 40, 41, 42, 43, 44, 45, 46, 47, 48, 49, 50, 51] (by decide +kernel) (by decide +kernel)
set_option maxRecDepth 20000 in
theorem gX6_solve_X6_clear : GoodIn wsX6_solve (wsV RX6 134 RX6 yX6_clear wsX6_clear) := goodIn_app (goodIn_of _ (by decide +kernel)) ggX6_solve_X6_clear
theorem dX6_solve_0 : decode cX6_solve 0 = .ok (.aload_n 0, 1) := by decide +kernel
theorem dX6_solve_1 : decode cX6_solve 1 = .ok (.iconst 0, 1) := by decide +kernel
theorem dX6_solve_2 : decode cX6_solve 2 = .ok (.putfield 124, 3) := by decide +kernel
theorem dX6_solve_5 : decode cX6_solve 5 = .ok (.iconst 0, 1) := by decide +kernel
theorem dX6_solve_6 : decode cX6_solve 6 = .ok (.istore_n 3, 1) := by decide +kernel
theorem dX6_solve_7 : decode cX6_solve 7 = .ok (.iload_n 3, 1) := by decide +kernel
theorem dX6_solve_8 : decode cX6_solve 8 = .ok (.aload_n 0, 1) := by decide +kernel
theorem dX6_solve_9 : decode cX6_solve 9 = .ok (.getfield 68, 3) := by decide +kernel
theorem dX6_solve_12 : decode cX6_solve 12 = .ok (.if_icmp .ge 38, 3) := by decide +kernel
theorem dX6_solve_15 : decode cX6_solve 15 = .ok (.aload_n 0, 1) := by decide +kernel
theorem dX6_solve_16 : decode cX6_solve 16 = .ok (.getfield 19, 3) := by decide +kernel
theorem dX6_solve_19 : decode cX6_solve 19 = .ok (.iload_n 3, 1) := by decide +kernel
theorem dX6_solve_20 : decode cX6_solve 20 = .ok (.baload, 1) := by decide +kernel
theorem dX6_solve_21 : decode cX6_solve 21 = .ok (.ifCond .eq 23, 3) := by decide +kernel
theorem dX6_solve_24 : decode cX6_solve 24 = .ok (.aload_n 0, 1) := by decide +kernel
theorem dX6_solve_25 : decode cX6_solve 25 = .ok (.getfield 36, 3) := by decide +kernel
theorem dX6_solve_28 : decode cX6_solve 28 = .ok (.aload_n 0, 1) := by decide +kernel
theorem dX6_solve_29 : decode cX6_solve 29 = .ok (.getfield 124, 3) := by decide +kernel
theorem dX6_solve_32 : decode cX6_solve 32 = .ok (.iload_n 3, 1) := by decide +kernel
theorem dX6_solve_33 : decode cX6_solve 33 = .ok (.iastore, 1) := by decide +kernel
theorem dX6_solve_34 : decode cX6_solve 34 = .ok (.aload_n 0, 1) := by decide +kernel
theorem dX6_solve_35 : decode cX6_solve 35 = .ok (.dup, 1) := by decide +kernel
theorem dX6_solve_36 : decode cX6_solve 36 = .ok (.getfield 124, 3) := by decide +kernel
theorem dX6_solve_39 : decode cX6_solve 39 = .ok (.iconst 1, 1) := by decide +kernel
theorem dX6_solve_40 : decode cX6_solve 40 = .ok (.iadd, 1) := by decide +kernel
theorem dX6_solve_41 : decode cX6_solve 41 = .ok (.putfield 124, 3) := by decide +kernel
theorem dX6_solve_44 : decode cX6_solve 44 = .ok (.iinc 3 1, 3) := by decide +kernel
theorem dX6_solve_47 : decode cX6_solve 47 = .ok (.goto (-40), 3) := by decide +kernel
theorem dX6_solve_50 : decode cX6_solve 50 = .ok (.aload_n 0, 1) := by decide +kernel
theorem dX6_solve_51 : decode cX6_solve 51 = .ok (.iconst 0, 1) := by decide +kernel
theorem dX6_solve_52 : decode cX6_solve 52 = .ok (.putfield 127, 3) := by decide +kernel
theorem dX6_solve_55 : decode cX6_solve 55 = .ok (.iconst 0, 1) := by decide +kernel
theorem dX6_solve_56 : decode cX6_solve 56 = .ok (.istore_n 3, 1) := by decide +kernel
theorem dX6_solve_57 : decode cX6_solve 57 = .ok (.iload_n 3, 1) := by decide +kernel
theorem dX6_solve_58 : decode cX6_solve 58 = .ok (.aload_n 0, 1) := by decide +kernel
theorem dX6_solve_59 : decode cX6_solve 59 = .ok (.getfield 68, 3) := by decide +kernel
theorem dX6_solve_62 : decode cX6_solve 62 = .ok (.if_icmp .ge 144, 3) := by decide +kernel
theorem dX6_solve_65 : decode cX6_solve 65 = .ok (.iload_n 3, 1) := by decide +kernel
theorem dX6_solve_66 : decode cX6_solve 66 = .ok (.iload_n 1, 1) := by decide +kernel
theorem dX6_solve_67 : decode cX6_solve 67 = .ok (.iload_n 2, 1) := by decide +kernel
theorem dX6_solve_68 : decode cX6_solve 68 = .ok (.invokestatic 114, 3) := by decide +kernel
theorem dX6_solve_71 : decode cX6_solve 71 = .ok (.ifCond .ne 129, 3) := by decide +kernel
theorem dX6_solve_74 : decode cX6_solve 74 = .ok (.lconst 0, 1) := by decide +kernel
theorem dX6_solve_75 : decode cX6_solve 75 = .ok (.lstore 4, 2) := by decide +kernel
theorem dX6_solve_77 : decode cX6_solve 77 = .ok (.iconst 0, 1) := by decide +kernel
theorem dX6_solve_78 : decode cX6_solve 78 = .ok (.istore 6, 2) := by decide +kernel
theorem dX6_solve_80 : decode cX6_solve 80 = .ok (.iload 6, 2) := by decide +kernel
theorem dX6_solve_82 : decode cX6_solve 82 = .ok (.aload_n 0, 1) := by decide +kernel
theorem dX6_solve_83 : decode cX6_solve 83 = .ok (.getfield 68, 3) := by decide +kernel
theorem dX6_solve_86 : decode cX6_solve 86 = .ok (.if_icmp .ge 43, 3) := by decide +kernel
theorem dX6_solve_89 : decode cX6_solve 89 = .ok (.lload 4, 2) := by decide +kernel
theorem dX6_solve_91 : decode cX6_solve 91 = .ok (.aload_n 0, 1) := by decide +kernel
theorem dX6_solve_92 : decode cX6_solve 92 = .ok (.getfield 19, 3) := by decide +kernel
theorem dX6_solve_95 : decode cX6_solve 95 = .ok (.iload 6, 2) := by decide +kernel
theorem dX6_solve_97 : decode cX6_solve 97 = .ok (.baload, 1) := by decide +kernel
theorem dX6_solve_98 : decode cX6_solve 98 = .ok (.ifCond .eq 7, 3) := by decide +kernel
theorem dX6_solve_101 : decode cX6_solve 101 = .ok (.lconst 0, 1) := by decide +kernel
theorem dX6_solve_102 : decode cX6_solve 102 = .ok (.goto 18, 3) := by decide +kernel
theorem dX6_solve_105 : decode cX6_solve 105 = .ok (.aload_n 0, 1) := by decide +kernel
theorem dX6_solve_106 : decode cX6_solve 106 = .ok (.getfield 7, 3) := by decide +kernel
theorem dX6_solve_109 : decode cX6_solve 109 = .ok (.iload 6, 2) := by decide +kernel
theorem dX6_solve_111 : decode cX6_solve 111 = .ok (.iaload, 1) := by decide +kernel
theorem dX6_solve_112 : decode cX6_solve 112 = .ok (.iload 6, 2) := by decide +kernel
theorem dX6_solve_114 : decode cX6_solve 114 = .ok (.iload_n 3, 1) := by decide +kernel
theorem dX6_solve_115 : decode cX6_solve 115 = .ok (.invokestatic 86, 3) := by decide +kernel
theorem dX6_solve_118 : decode cX6_solve 118 = .ok (.imul, 1) := by decide +kernel
theorem dX6_solve_119 : decode cX6_solve 119 = .ok (.i2l, 1) := by decide +kernel
theorem dX6_solve_120 : decode cX6_solve 120 = .ok (.lsub, 1) := by decide +kernel
theorem dX6_solve_121 : decode cX6_solve 121 = .ok (.lstore 4, 2) := by decide +kernel
theorem dX6_solve_123 : decode cX6_solve 123 = .ok (.iinc 6 1, 3) := by decide +kernel
theorem dX6_solve_126 : decode cX6_solve 126 = .ok (.goto (-46), 3) := by decide +kernel
theorem dX6_solve_129 : decode cX6_solve 129 = .ok (.iconst 0, 1) := by decide +kernel
theorem dX6_solve_130 : decode cX6_solve 130 = .ok (.istore 6, 2) := by decide +kernel
theorem dX6_solve_132 : decode cX6_solve 132 = .ok (.iload 6, 2) := by decide +kernel
theorem dX6_solve_134 : decode cX6_solve 134 = .ok (.aload_n 0, 1) := by decide +kernel
theorem dX6_solve_135 : decode cX6_solve 135 = .ok (.getfield 124, 3) := by decide +kernel
theorem dX6_solve_138 : decode cX6_solve 138 = .ok (.if_icmp .ge 36, 3) := by decide +kernel
theorem dX6_solve_141 : decode cX6_solve 141 = .ok (.aload_n 0, 1) := by decide +kernel
theorem dX6_solve_142 : decode cX6_solve 142 = .ok (.getfield 32, 3) := by decide +kernel
theorem dX6_solve_145 : decode cX6_solve 145 = .ok (.bipush 6, 2) := by decide +kernel
theorem dX6_solve_147 : decode cX6_solve 147 = .ok (.aload_n 0, 1) := by decide +kernel
theorem dX6_solve_148 : decode cX6_solve 148 = .ok (.getfield 127, 3) := by decide +kernel
theorem dX6_solve_151 : decode cX6_solve 151 = .ok (.imul, 1) := by decide +kernel
theorem dX6_solve_152 : decode cX6_solve 152 = .ok (.iload 6, 2) := by decide +kernel
theorem dX6_solve_154 : decode cX6_solve 154 = .ok (.iadd, 1) := by decide +kernel
theorem dX6_solve_155 : decode cX6_solve 155 = .ok (.aload_n 0, 1) := by decide +kernel
theorem dX6_solve_156 : decode cX6_solve 156 = .ok (.getfield 36, 3) := by decide +kernel
theorem dX6_solve_159 : decode cX6_solve 159 = .ok (.iload 6, 2) := by decide +kernel
theorem dX6_solve_161 : decode cX6_solve 161 = .ok (.iaload, 1) := by decide +kernel
theorem dX6_solve_162 : decode cX6_solve 162 = .ok (.iload_n 3, 1) := by decide +kernel
theorem dX6_solve_163 : decode cX6_solve 163 = .ok (.invokestatic 86, 3) := by decide +kernel
theorem dX6_solve_166 : decode cX6_solve 166 = .ok (.i2l, 1) := by decide +kernel
theorem dX6_solve_167 : decode cX6_solve 167 = .ok (.lastore, 1) := by decide +kernel
theorem dX6_solve_168 : decode cX6_solve 168 = .ok (.iinc 6 1, 3) := by decide +kernel
theorem dX6_solve_171 : decode cX6_solve 171 = .ok (.goto (-39), 3) := by decide +kernel
theorem dX6_solve_174 : decode cX6_solve 174 = .ok (.aload_n 0, 1) := by decide +kernel
theorem dX6_solve_175 : decode cX6_solve 175 = .ok (.getfield 32, 3) := by decide +kernel
theorem dX6_solve_178 : decode cX6_solve 178 = .ok (.bipush 6, 2) := by decide +kernel
theorem dX6_solve_180 : decode cX6_solve 180 = .ok (.aload_n 0, 1) := by decide +kernel
theorem dX6_solve_181 : decode cX6_solve 181 = .ok (.getfield 127, 3) := by decide +kernel
theorem dX6_solve_184 : decode cX6_solve 184 = .ok (.imul, 1) := by decide +kernel
theorem dX6_solve_185 : decode cX6_solve 185 = .ok (.iconst 5, 1) := by decide +kernel
theorem dX6_solve_186 : decode cX6_solve 186 = .ok (.iadd, 1) := by decide +kernel
theorem dX6_solve_187 : decode cX6_solve 187 = .ok (.lload 4, 2) := by decide +kernel
theorem dX6_solve_189 : decode cX6_solve 189 = .ok (.lastore, 1) := by decide +kernel
theorem dX6_solve_190 : decode cX6_solve 190 = .ok (.aload_n 0, 1) := by decide +kernel
theorem dX6_solve_191 : decode cX6_solve 191 = .ok (.dup, 1) := by decide +kernel
theorem dX6_solve_192 : decode cX6_solve 192 = .ok (.getfield 127, 3) := by decide +kernel
theorem dX6_solve_195 : decode cX6_solve 195 = .ok (.iconst 1, 1) := by decide +kernel
theorem dX6_solve_196 : decode cX6_solve 196 = .ok (.iadd, 1) := by decide +kernel
theorem dX6_solve_197 : decode cX6_solve 197 = .ok (.putfield 127, 3) := by decide +kernel
theorem dX6_solve_200 : decode cX6_solve 200 = .ok (.iinc 3 1, 3) := by decide +kernel
theorem dX6_solve_203 : decode cX6_solve 203 = .ok (.goto (-146), 3) := by decide +kernel
theorem dX6_solve_206 : decode cX6_solve 206 = .ok (.iconst 0, 1) := by decide +kernel
theorem dX6_solve_207 : decode cX6_solve 207 = .ok (.istore_n 3, 1) := by decide +kernel
theorem dX6_solve_208 : decode cX6_solve 208 = .ok (.iconst 0, 1) := by decide +kernel
theorem dX6_solve_209 : decode cX6_solve 209 = .ok (.istore 4, 2) := by decide +kernel
theorem dX6_solve_211 : decode cX6_solve 211 = .ok (.iload 4, 2) := by decide +kernel
theorem dX6_solve_213 : decode cX6_solve 213 = .ok (.aload_n 0, 1) := by decide +kernel
theorem dX6_solve_214 : decode cX6_solve 214 = .ok (.getfield 124, 3) := by decide +kernel
theorem dX6_solve_217 : decode cX6_solve 217 = .ok (.if_icmp .ge 113, 3) := by decide +kernel
theorem dX6_solve_220 : decode cX6_solve 220 = .ok (.aload_n 0, 1) := by decide +kernel
theorem dX6_solve_221 : decode cX6_solve 221 = .ok (.getfield 39, 3) := by decide +kernel
theorem dX6_solve_224 : decode cX6_solve 224 = .ok (.iload 4, 2) := by decide +kernel
theorem dX6_solve_226 : decode cX6_solve 226 = .ok (.iconst (-1), 1) := by decide +kernel
theorem dX6_solve_227 : decode cX6_solve 227 = .ok (.iastore, 1) := by decide +kernel
theorem dX6_solve_228 : decode cX6_solve 228 = .ok (.iload_n 3, 1) := by decide +kernel
theorem dX6_solve_229 : decode cX6_solve 229 = .ok (.istore 5, 2) := by decide +kernel
theorem dX6_solve_231 : decode cX6_solve 231 = .ok (.iload 5, 2) := by decide +kernel
theorem dX6_solve_233 : decode cX6_solve 233 = .ok (.aload_n 0, 1) := by decide +kernel
theorem dX6_solve_234 : decode cX6_solve 234 = .ok (.getfield 127, 3) := by decide +kernel
theorem dX6_solve_237 : decode cX6_solve 237 = .ok (.if_icmp .ge 27, 3) := by decide +kernel
theorem dX6_solve_240 : decode cX6_solve 240 = .ok (.aload_n 0, 1) := by decide +kernel
theorem dX6_solve_241 : decode cX6_solve 241 = .ok (.getfield 32, 3) := by decide +kernel
theorem dX6_solve_244 : decode cX6_solve 244 = .ok (.bipush 6, 2) := by decide +kernel
theorem dX6_solve_246 : decode cX6_solve 246 = .ok (.iload 5, 2) := by decide +kernel
theorem dX6_solve_248 : decode cX6_solve 248 = .ok (.imul, 1) := by decide +kernel
theorem dX6_solve_249 : decode cX6_solve 249 = .ok (.iload 4, 2) := by decide +kernel
theorem dX6_solve_251 : decode cX6_solve 251 = .ok (.iadd, 1) := by decide +kernel
theorem dX6_solve_252 : decode cX6_solve 252 = .ok (.laload, 1) := by decide +kernel
theorem dX6_solve_253 : decode cX6_solve 253 = .ok (.lconst 0, 1) := by decide +kernel
theorem dX6_solve_254 : decode cX6_solve 254 = .ok (.lcmp, 1) := by decide +kernel
theorem dX6_solve_255 : decode cX6_solve 255 = .ok (.ifCond .ne 9, 3) := by decide +kernel
theorem dX6_solve_258 : decode cX6_solve 258 = .ok (.iinc 5 1, 3) := by decide +kernel
theorem dX6_solve_261 : decode cX6_solve 261 = .ok (.goto (-30), 3) := by decide +kernel
theorem dX6_solve_264 : decode cX6_solve 264 = .ok (.iload 5, 2) := by decide +kernel
theorem dX6_solve_266 : decode cX6_solve 266 = .ok (.aload_n 0, 1) := by decide +kernel
theorem dX6_solve_267 : decode cX6_solve 267 = .ok (.getfield 127, 3) := by decide +kernel
theorem dX6_solve_270 : decode cX6_solve 270 = .ok (.if_icmp .ge 54, 3) := by decide +kernel
theorem dX6_solve_273 : decode cX6_solve 273 = .ok (.aload_n 0, 1) := by decide +kernel
theorem dX6_solve_274 : decode cX6_solve 274 = .ok (.iload 5, 2) := by decide +kernel
theorem dX6_solve_276 : decode cX6_solve 276 = .ok (.iload_n 3, 1) := by decide +kernel
theorem dX6_solve_277 : decode cX6_solve 277 = .ok (.invokevirtual 130, 3) := by decide +kernel
theorem dX6_solve_280 : decode cX6_solve 280 = .ok (.iconst 0, 1) := by decide +kernel
theorem dX6_solve_281 : decode cX6_solve 281 = .ok (.istore 6, 2) := by decide +kernel
theorem dX6_solve_283 : decode cX6_solve 283 = .ok (.iload 6, 2) := by decide +kernel
theorem dX6_solve_285 : decode cX6_solve 285 = .ok (.aload_n 0, 1) := by decide +kernel
theorem dX6_solve_286 : decode cX6_solve 286 = .ok (.getfield 127, 3) := by decide +kernel
theorem dX6_solve_289 : decode cX6_solve 289 = .ok (.if_icmp .ge 24, 3) := by decide +kernel
theorem dX6_solve_292 : decode cX6_solve 292 = .ok (.iload 6, 2) := by decide +kernel
theorem dX6_solve_294 : decode cX6_solve 294 = .ok (.iload_n 3, 1) := by decide +kernel
theorem dX6_solve_295 : decode cX6_solve 295 = .ok (.if_icmp .eq 12, 3) := by decide +kernel
theorem dX6_solve_298 : decode cX6_solve 298 = .ok (.aload_n 0, 1) := by decide +kernel
theorem dX6_solve_299 : decode cX6_solve 299 = .ok (.iload 6, 2) := by decide +kernel
theorem dX6_solve_301 : decode cX6_solve 301 = .ok (.iload_n 3, 1) := by decide +kernel
theorem dX6_solve_302 : decode cX6_solve 302 = .ok (.iload 4, 2) := by decide +kernel
theorem dX6_solve_304 : decode cX6_solve 304 = .ok (.invokevirtual 134, 3) := by decide +kernel
theorem dX6_solve_307 : decode cX6_solve 307 = .ok (.iinc 6 1, 3) := by decide +kernel
theorem dX6_solve_310 : decode cX6_solve 310 = .ok (.goto (-27), 3) := by decide +kernel
theorem dX6_solve_313 : decode cX6_solve 313 = .ok (.aload_n 0, 1) := by decide +kernel
theorem dX6_solve_314 : decode cX6_solve 314 = .ok (.getfield 39, 3) := by decide +kernel
theorem dX6_solve_317 : decode cX6_solve 317 = .ok (.iload 4, 2) := by decide +kernel
theorem dX6_solve_319 : decode cX6_solve 319 = .ok (.iload_n 3, 1) := by decide +kernel
theorem dX6_solve_320 : decode cX6_solve 320 = .ok (.iastore, 1) := by decide +kernel
theorem dX6_solve_321 : decode cX6_solve 321 = .ok (.iinc 3 1, 3) := by decide +kernel
theorem dX6_solve_324 : decode cX6_solve 324 = .ok (.iinc 4 1, 3) := by decide +kernel
theorem dX6_solve_327 : decode cX6_solve 327 = .ok (.goto (-116), 3) := by decide +kernel
theorem dX6_solve_330 : decode cX6_solve 330 = .ok (.iload_n 3, 1) := by decide +kernel
theorem dX6_solve_331 : decode cX6_solve 331 = .ok (.istore 4, 2) := by decide +kernel
theorem dX6_solve_333 : decode cX6_solve 333 = .ok (.iload 4, 2) := by decide +kernel
theorem dX6_solve_335 : decode cX6_solve 335 = .ok (.aload_n 0, 1) := by decide +kernel
theorem dX6_solve_336 : decode cX6_solve 336 = .ok (.getfield 127, 3) := by decide +kernel
theorem dX6_solve_339 : decode cX6_solve 339 = .ok (.if_icmp .ge 28, 3) := by decide +kernel
theorem dX6_solve_342 : decode cX6_solve 342 = .ok (.aload_n 0, 1) := by decide +kernel
theorem dX6_solve_343 : decode cX6_solve 343 = .ok (.getfield 32, 3) := by decide +kernel
theorem dX6_solve_346 : decode cX6_solve 346 = .ok (.bipush 6, 2) := by decide +kernel
theorem dX6_solve_348 : decode cX6_solve 348 = .ok (.iload 4, 2) := by decide +kernel
theorem dX6_solve_350 : decode cX6_solve 350 = .ok (.imul, 1) := by decide +kernel
theorem dX6_solve_351 : decode cX6_solve 351 = .ok (.iconst 5, 1) := by decide +kernel
theorem dX6_solve_352 : decode cX6_solve 352 = .ok (.iadd, 1) := by decide +kernel
theorem dX6_solve_353 : decode cX6_solve 353 = .ok (.laload, 1) := by decide +kernel
theorem dX6_solve_354 : decode cX6_solve 354 = .ok (.lconst 0, 1) := by decide +kernel
theorem dX6_solve_355 : decode cX6_solve 355 = .ok (.lcmp, 1) := by decide +kernel
theorem dX6_solve_356 : decode cX6_solve 356 = .ok (.ifCond .eq 5, 3) := by decide +kernel
theorem dX6_solve_359 : decode cX6_solve 359 = .ok (.iconst 0, 1) := by decide +kernel
theorem dX6_solve_360 : decode cX6_solve 360 = .ok (.ireturn, 1) := by decide +kernel
theorem dX6_solve_361 : decode cX6_solve 361 = .ok (.iinc 4 1, 3) := by decide +kernel
theorem dX6_solve_364 : decode cX6_solve 364 = .ok (.goto (-31), 3) := by decide +kernel
theorem dX6_solve_367 : decode cX6_solve 367 = .ok (.iload_n 3, 1) := by decide +kernel
theorem dX6_solve_368 : decode cX6_solve 368 = .ok (.aload_n 0, 1) := by decide +kernel
theorem dX6_solve_369 : decode cX6_solve 369 = .ok (.getfield 124, 3) := by decide +kernel
theorem dX6_solve_372 : decode cX6_solve 372 = .ok (.if_icmp .ne 7, 3) := by decide +kernel
theorem dX6_solve_375 : decode cX6_solve 375 = .ok (.iconst 1, 1) := by decide +kernel
theorem dX6_solve_376 : decode cX6_solve 376 = .ok (.goto 4, 3) := by decide +kernel
theorem dX6_solve_379 : decode cX6_solve 379 = .ok (.iconst 2, 1) := by decide +kernel
theorem dX6_solve_380 : decode cX6_solve 380 = .ok (.ireturn, 1) := by decide +kernel
theorem dX6_turn_0 : decode cX6_turn 0 = .ok (.iconst 0, 1) := by decide +kernel
theorem dX6_turn_1 : decode cX6_turn 1 = .ok (.istore_n 3, 1) := by decide +kernel
theorem dX6_turn_2 : decode cX6_turn 2 = .ok (.iload_n 3, 1) := by decide +kernel
theorem dX6_turn_3 : decode cX6_turn 3 = .ok (.bipush 6, 2) := by decide +kernel
theorem dX6_turn_5 : decode cX6_turn 5 = .ok (.if_icmp .ge 57, 3) := by decide +kernel
theorem dX6_turn_8 : decode cX6_turn 8 = .ok (.aload_n 0, 1) := by decide +kernel
theorem dX6_turn_9 : decode cX6_turn 9 = .ok (.getfield 32, 3) := by decide +kernel
theorem dX6_turn_12 : decode cX6_turn 12 = .ok (.bipush 6, 2) := by decide +kernel
theorem dX6_turn_14 : decode cX6_turn 14 = .ok (.iload_n 1, 1) := by decide +kernel
theorem dX6_turn_15 : decode cX6_turn 15 = .ok (.imul, 1) := by decide +kernel
theorem dX6_turn_16 : decode cX6_turn 16 = .ok (.iload_n 3, 1) := by decide +kernel
theorem dX6_turn_17 : decode cX6_turn 17 = .ok (.iadd, 1) := by decide +kernel
theorem dX6_turn_18 : decode cX6_turn 18 = .ok (.laload, 1) := by decide +kernel
theorem dX6_turn_19 : decode cX6_turn 19 = .ok (.lstore 4, 2) := by decide +kernel
theorem dX6_turn_21 : decode cX6_turn 21 = .ok (.aload_n 0, 1) := by decide +kernel
theorem dX6_turn_22 : decode cX6_turn 22 = .ok (.getfield 32, 3) := by decide +kernel
theorem dX6_turn_25 : decode cX6_turn 25 = .ok (.bipush 6, 2) := by decide +kernel
theorem dX6_turn_27 : decode cX6_turn 27 = .ok (.iload_n 1, 1) := by decide +kernel
theorem dX6_turn_28 : decode cX6_turn 28 = .ok (.imul, 1) := by decide +kernel
theorem dX6_turn_29 : decode cX6_turn 29 = .ok (.iload_n 3, 1) := by decide +kernel
theorem dX6_turn_30 : decode cX6_turn 30 = .ok (.iadd, 1) := by decide +kernel
theorem dX6_turn_31 : decode cX6_turn 31 = .ok (.aload_n 0, 1) := by decide +kernel
theorem dX6_turn_32 : decode cX6_turn 32 = .ok (.getfield 32, 3) := by decide +kernel
theorem dX6_turn_35 : decode cX6_turn 35 = .ok (.bipush 6, 2) := by decide +kernel
theorem dX6_turn_37 : decode cX6_turn 37 = .ok (.iload_n 2, 1) := by decide +kernel
theorem dX6_turn_38 : decode cX6_turn 38 = .ok (.imul, 1) := by decide +kernel
theorem dX6_turn_39 : decode cX6_turn 39 = .ok (.iload_n 3, 1) := by decide +kernel
theorem dX6_turn_40 : decode cX6_turn 40 = .ok (.iadd, 1) := by decide +kernel
theorem dX6_turn_41 : decode cX6_turn 41 = .ok (.laload, 1) := by decide +kernel
theorem dX6_turn_42 : decode cX6_turn 42 = .ok (.lastore, 1) := by decide +kernel
theorem dX6_turn_43 : decode cX6_turn 43 = .ok (.aload_n 0, 1) := by decide +kernel
theorem dX6_turn_44 : decode cX6_turn 44 = .ok (.getfield 32, 3) := by decide +kernel
theorem dX6_turn_47 : decode cX6_turn 47 = .ok (.bipush 6, 2) := by decide +kernel
theorem dX6_turn_49 : decode cX6_turn 49 = .ok (.iload_n 2, 1) := by decide +kernel
theorem dX6_turn_50 : decode cX6_turn 50 = .ok (.imul, 1) := by decide +kernel
theorem dX6_turn_51 : decode cX6_turn 51 = .ok (.iload_n 3, 1) := by decide +kernel
theorem dX6_turn_52 : decode cX6_turn 52 = .ok (.iadd, 1) := by decide +kernel
theorem dX6_turn_53 : decode cX6_turn 53 = .ok (.lload 4, 2) := by decide +kernel
theorem dX6_turn_55 : decode cX6_turn 55 = .ok (.lastore, 1) := by decide +kernel
theorem dX6_turn_56 : decode cX6_turn 56 = .ok (.iinc 3 1, 3) := by decide +kernel
theorem dX6_turn_59 : decode cX6_turn 59 = .ok (.goto (-57), 3) := by decide +kernel
theorem dX6_turn_62 : decode cX6_turn 62 = .ok (.return_, 1) := by decide +kernel
set_option maxRecDepth 20000 in
theorem ggX6_clear_X6_common : GoodIn wsX6_clear wsX6_common := goodIn_r _ [6] (by decide +kernel) (by decide +kernel)
set_option maxRecDepth 20000 in
theorem gX6_clear_X6_common : GoodIn wsX6_clear (va_wsS RX6 138 yX6_common wsX6_common) := goodIn_app (goodIn_of _ (by decide +kernel)) ggX6_clear_X6_common
theorem dX6_clear_0 : decode cX6_clear 0 = .ok (.aload_n 0, 1) := by decide +kernel
theorem dX6_clear_1 : decode cX6_clear 1 = .ok (.getfield 32, 3) := by decide +kernel
theorem dX6_clear_4 : decode cX6_clear 4 = .ok (.bipush 6, 2) := by decide +kernel
theorem dX6_clear_6 : decode cX6_clear 6 = .ok (.iload_n 1, 1) := by decide +kernel
theorem dX6_clear_7 : decode cX6_clear 7 = .ok (.imul, 1) := by decide +kernel
theorem dX6_clear_8 : decode cX6_clear 8 = .ok (.iload_n 3, 1) := by decide +kernel
theorem dX6_clear_9 : decode cX6_clear 9 = .ok (.iadd, 1) := by decide +kernel
theorem dX6_clear_10 : decode cX6_clear 10 = .ok (.laload, 1) := by decide +kernel
theorem dX6_clear_11 : decode cX6_clear 11 = .ok (.lstore 4, 2) := by decide +kernel
theorem dX6_clear_13 : decode cX6_clear 13 = .ok (.aload_n 0, 1) := by decide +kernel
theorem dX6_clear_14 : decode cX6_clear 14 = .ok (.getfield 32, 3) := by decide +kernel
theorem dX6_clear_17 : decode cX6_clear 17 = .ok (.bipush 6, 2) := by decide +kernel
theorem dX6_clear_19 : decode cX6_clear 19 = .ok (.iload_n 2, 1) := by decide +kernel
theorem dX6_clear_20 : decode cX6_clear 20 = .ok (.imul, 1) := by decide +kernel
theorem dX6_clear_21 : decode cX6_clear 21 = .ok (.iload_n 3, 1) := by decide +kernel
theorem dX6_clear_22 : decode cX6_clear 22 = .ok (.iadd, 1) := by decide +kernel
theorem dX6_clear_23 : decode cX6_clear 23 = .ok (.laload, 1) := by decide +kernel
theorem dX6_clear_24 : decode cX6_clear 24 = .ok (.lstore 6, 2) := by decide +kernel
theorem dX6_clear_26 : decode cX6_clear 26 = .ok (.lload 4, 2) := by decide +kernel
theorem dX6_clear_28 : decode cX6_clear 28 = .ok (.lconst 0, 1) := by decide +kernel
theorem dX6_clear_29 : decode cX6_clear 29 = .ok (.lcmp, 1) := by decide +kernel
theorem dX6_clear_30 : decode cX6_clear 30 = .ok (.ifCond .ne 4, 3) := by decide +kernel
theorem dX6_clear_33 : decode cX6_clear 33 = .ok (.return_, 1) := by decide +kernel
theorem dX6_clear_34 : decode cX6_clear 34 = .ok (.lconst 0, 1) := by decide +kernel
theorem dX6_clear_35 : decode cX6_clear 35 = .ok (.lstore 8, 2) := by decide +kernel
theorem dX6_clear_37 : decode cX6_clear 37 = .ok (.iconst 0, 1) := by decide +kernel
theorem dX6_clear_38 : decode cX6_clear 38 = .ok (.istore 10, 2) := by decide +kernel
theorem dX6_clear_40 : decode cX6_clear 40 = .ok (.iload 10, 2) := by decide +kernel
theorem dX6_clear_42 : decode cX6_clear 42 = .ok (.bipush 6, 2) := by decide +kernel
theorem dX6_clear_44 : decode cX6_clear 44 = .ok (.if_icmp .ge 86, 3) := by decide +kernel
theorem dX6_clear_47 : decode cX6_clear 47 = .ok (.iload 10, 2) := by decide +kernel
theorem dX6_clear_49 : decode cX6_clear 49 = .ok (.aload_n 0, 1) := by decide +kernel
theorem dX6_clear_50 : decode cX6_clear 50 = .ok (.getfield 124, 3) := by decide +kernel
theorem dX6_clear_53 : decode cX6_clear 53 = .ok (.if_icmp .lt 9, 3) := by decide +kernel
theorem dX6_clear_56 : decode cX6_clear 56 = .ok (.iload 10, 2) := by decide +kernel
theorem dX6_clear_58 : decode cX6_clear 58 = .ok (.iconst 5, 1) := by decide +kernel
theorem dX6_clear_59 : decode cX6_clear 59 = .ok (.if_icmp .ne 65, 3) := by decide +kernel
theorem dX6_clear_62 : decode cX6_clear 62 = .ok (.aload_n 0, 1) := by decide +kernel
theorem dX6_clear_63 : decode cX6_clear 63 = .ok (.getfield 32, 3) := by decide +kernel
theorem dX6_clear_66 : decode cX6_clear 66 = .ok (.bipush 6, 2) := by decide +kernel
theorem dX6_clear_68 : decode cX6_clear 68 = .ok (.iload_n 1, 1) := by decide +kernel
theorem dX6_clear_69 : decode cX6_clear 69 = .ok (.imul, 1) := by decide +kernel
theorem dX6_clear_70 : decode cX6_clear 70 = .ok (.iload 10, 2) := by decide +kernel
theorem dX6_clear_72 : decode cX6_clear 72 = .ok (.iadd, 1) := by decide +kernel
theorem dX6_clear_73 : decode cX6_clear 73 = .ok (.aload_n 0, 1) := by decide +kernel
theorem dX6_clear_74 : decode cX6_clear 74 = .ok (.getfield 32, 3) := by decide +kernel
theorem dX6_clear_77 : decode cX6_clear 77 = .ok (.bipush 6, 2) := by decide +kernel
theorem dX6_clear_79 : decode cX6_clear 79 = .ok (.iload_n 1, 1) := by decide +kernel
theorem dX6_clear_80 : decode cX6_clear 80 = .ok (.imul, 1) := by decide +kernel
theorem dX6_clear_81 : decode cX6_clear 81 = .ok (.iload 10, 2) := by decide +kernel
theorem dX6_clear_83 : decode cX6_clear 83 = .ok (.iadd, 1) := by decide +kernel
theorem dX6_clear_84 : decode cX6_clear 84 = .ok (.laload, 1) := by decide +kernel
theorem dX6_clear_85 : decode cX6_clear 85 = .ok (.lload 6, 2) := by decide +kernel
theorem dX6_clear_87 : decode cX6_clear 87 = .ok (.lmul, 1) := by decide +kernel
theorem dX6_clear_88 : decode cX6_clear 88 = .ok (.aload_n 0, 1) := by decide +kernel
theorem dX6_clear_89 : decode cX6_clear 89 = .ok (.getfield 32, 3) := by decide +kernel
theorem dX6_clear_92 : decode cX6_clear 92 = .ok (.bipush 6, 2) := by decide +kernel
theorem dX6_clear_94 : decode cX6_clear 94 = .ok (.iload_n 2, 1) := by decide +kernel
theorem dX6_clear_95 : decode cX6_clear 95 = .ok (.imul, 1) := by decide +kernel
theorem dX6_clear_96 : decode cX6_clear 96 = .ok (.iload 10, 2) := by decide +kernel
theorem dX6_clear_98 : decode cX6_clear 98 = .ok (.iadd, 1) := by decide +kernel
theorem dX6_clear_99 : decode cX6_clear 99 = .ok (.laload, 1) := by decide +kernel
theorem dX6_clear_100 : decode cX6_clear 100 = .ok (.lload 4, 2) := by decide +kernel
theorem dX6_clear_102 : decode cX6_clear 102 = .ok (.lmul, 1) := by decide +kernel
theorem dX6_clear_103 : decode cX6_clear 103 = .ok (.lsub, 1) := by decide +kernel
theorem dX6_clear_104 : decode cX6_clear 104 = .ok (.lastore, 1) := by decide +kernel
theorem dX6_clear_105 : decode cX6_clear 105 = .ok (.aload_n 0, 1) := by decide +kernel
theorem dX6_clear_106 : decode cX6_clear 106 = .ok (.getfield 32, 3) := by decide +kernel
theorem dX6_clear_109 : decode cX6_clear 109 = .ok (.bipush 6, 2) := by decide +kernel
theorem dX6_clear_111 : decode cX6_clear 111 = .ok (.iload_n 1, 1) := by decide +kernel
theorem dX6_clear_112 : decode cX6_clear 112 = .ok (.imul, 1) := by decide +kernel
theorem dX6_clear_113 : decode cX6_clear 113 = .ok (.iload 10, 2) := by decide +kernel
theorem dX6_clear_115 : decode cX6_clear 115 = .ok (.iadd, 1) := by decide +kernel
theorem dX6_clear_116 : decode cX6_clear 116 = .ok (.laload, 1) := by decide +kernel
theorem dX6_clear_117 : decode cX6_clear 117 = .ok (.lload 8, 2) := by decide +kernel
theorem dX6_clear_119 : decode cX6_clear 119 = .ok (.invokestatic 138, 3) := by decide +kernel
theorem dX6_clear_122 : decode cX6_clear 122 = .ok (.lstore 8, 2) := by decide +kernel
theorem dX6_clear_124 : decode cX6_clear 124 = .ok (.iinc 10 1, 3) := by decide +kernel
theorem dX6_clear_127 : decode cX6_clear 127 = .ok (.goto (-87), 3) := by decide +kernel
theorem dX6_clear_130 : decode cX6_clear 130 = .ok (.iconst 0, 1) := by decide +kernel
theorem dX6_clear_131 : decode cX6_clear 131 = .ok (.istore 10, 2) := by decide +kernel
theorem dX6_clear_133 : decode cX6_clear 133 = .ok (.iload 10, 2) := by decide +kernel
theorem dX6_clear_135 : decode cX6_clear 135 = .ok (.bipush 6, 2) := by decide +kernel
theorem dX6_clear_137 : decode cX6_clear 137 = .ok (.if_icmp .ge 48, 3) := by decide +kernel
theorem dX6_clear_140 : decode cX6_clear 140 = .ok (.lload 8, 2) := by decide +kernel
theorem dX6_clear_142 : decode cX6_clear 142 = .ok (.lconst 1, 1) := by decide +kernel
theorem dX6_clear_143 : decode cX6_clear 143 = .ok (.lcmp, 1) := by decide +kernel
theorem dX6_clear_144 : decode cX6_clear 144 = .ok (.ifCond .le 41, 3) := by decide +kernel
theorem dX6_clear_147 : decode cX6_clear 147 = .ok (.iload 10, 2) := by decide +kernel
theorem dX6_clear_149 : decode cX6_clear 149 = .ok (.aload_n 0, 1) := by decide +kernel
theorem dX6_clear_150 : decode cX6_clear 150 = .ok (.getfield 124, 3) := by decide +kernel
theorem dX6_clear_153 : decode cX6_clear 153 = .ok (.if_icmp .lt 9, 3) := by decide +kernel
theorem dX6_clear_156 : decode cX6_clear 156 = .ok (.iload 10, 2) := by decide +kernel
theorem dX6_clear_158 : decode cX6_clear 158 = .ok (.iconst 5, 1) := by decide +kernel
theorem dX6_clear_159 : decode cX6_clear 159 = .ok (.if_icmp .ne 20, 3) := by decide +kernel
theorem dX6_clear_162 : decode cX6_clear 162 = .ok (.aload_n 0, 1) := by decide +kernel
theorem dX6_clear_163 : decode cX6_clear 163 = .ok (.getfield 32, 3) := by decide +kernel
theorem dX6_clear_166 : decode cX6_clear 166 = .ok (.bipush 6, 2) := by decide +kernel
theorem dX6_clear_168 : decode cX6_clear 168 = .ok (.iload_n 1, 1) := by decide +kernel
theorem dX6_clear_169 : decode cX6_clear 169 = .ok (.imul, 1) := by decide +kernel
theorem dX6_clear_170 : decode cX6_clear 170 = .ok (.iload 10, 2) := by decide +kernel
theorem dX6_clear_172 : decode cX6_clear 172 = .ok (.iadd, 1) := by decide +kernel
theorem dX6_clear_173 : decode cX6_clear 173 = .ok (.dup2, 1) := by decide +kernel
theorem dX6_clear_174 : decode cX6_clear 174 = .ok (.laload, 1) := by decide +kernel
theorem dX6_clear_175 : decode cX6_clear 175 = .ok (.lload 8, 2) := by decide +kernel
theorem dX6_clear_177 : decode cX6_clear 177 = .ok (.ldiv, 1) := by decide +kernel
theorem dX6_clear_178 : decode cX6_clear 178 = .ok (.lastore, 1) := by decide +kernel
theorem dX6_clear_179 : decode cX6_clear 179 = .ok (.iinc 10 1, 3) := by decide +kernel
theorem dX6_clear_182 : decode cX6_clear 182 = .ok (.goto (-49), 3) := by decide +kernel
theorem dX6_clear_185 : decode cX6_clear 185 = .ok (.return_, 1) := by decide +kernel
theorem dX6_common_0 : decode cX6_common 0 = .ok (.lload_n 0, 1) := by decide +kernel
theorem dX6_common_1 : decode cX6_common 1 = .ok (.lconst 0, 1) := by decide +kernel
theorem dX6_common_2 : decode cX6_common 2 = .ok (.lcmp, 1) := by decide +kernel
theorem dX6_common_3 : decode cX6_common 3 = .ok (.ifCond .ge 8, 3) := by decide +kernel
theorem dX6_common_6 : decode cX6_common 6 = .ok (.lload_n 0, 1) := by decide +kernel
theorem dX6_common_7 : decode cX6_common 7 = .ok (.lneg, 1) := by decide +kernel
theorem dX6_common_8 : decode cX6_common 8 = .ok (.goto 4, 3) := by decide +kernel
theorem dX6_common_11 : decode cX6_common 11 = .ok (.lload_n 0, 1) := by decide +kernel
theorem dX6_common_12 : decode cX6_common 12 = .ok (.lstore 4, 2) := by decide +kernel
theorem dX6_common_14 : decode cX6_common 14 = .ok (.lload_n 2, 1) := by decide +kernel
theorem dX6_common_15 : decode cX6_common 15 = .ok (.lconst 0, 1) := by decide +kernel
theorem dX6_common_16 : decode cX6_common 16 = .ok (.lcmp, 1) := by decide +kernel
theorem dX6_common_17 : decode cX6_common 17 = .ok (.ifCond .ge 8, 3) := by decide +kernel
theorem dX6_common_20 : decode cX6_common 20 = .ok (.lload_n 2, 1) := by decide +kernel
theorem dX6_common_21 : decode cX6_common 21 = .ok (.lneg, 1) := by decide +kernel
theorem dX6_common_22 : decode cX6_common 22 = .ok (.goto 4, 3) := by decide +kernel
theorem dX6_common_25 : decode cX6_common 25 = .ok (.lload_n 2, 1) := by decide +kernel
theorem dX6_common_26 : decode cX6_common 26 = .ok (.lstore 6, 2) := by decide +kernel
theorem dX6_common_28 : decode cX6_common 28 = .ok (.lload 4, 2) := by decide +kernel
theorem dX6_common_30 : decode cX6_common 30 = .ok (.lconst 0, 1) := by decide +kernel
theorem dX6_common_31 : decode cX6_common 31 = .ok (.lcmp, 1) := by decide +kernel
theorem dX6_common_32 : decode cX6_common 32 = .ok (.ifCond .le 21, 3) := by decide +kernel
theorem dX6_common_35 : decode cX6_common 35 = .ok (.lload 6, 2) := by decide +kernel
theorem dX6_common_37 : decode cX6_common 37 = .ok (.lload 4, 2) := by decide +kernel
theorem dX6_common_39 : decode cX6_common 39 = .ok (.lrem, 1) := by decide +kernel
theorem dX6_common_40 : decode cX6_common 40 = .ok (.lstore 8, 2) := by decide +kernel
theorem dX6_common_42 : decode cX6_common 42 = .ok (.lload 4, 2) := by decide +kernel
theorem dX6_common_44 : decode cX6_common 44 = .ok (.lstore 6, 2) := by decide +kernel
theorem dX6_common_46 : decode cX6_common 46 = .ok (.lload 8, 2) := by decide +kernel
theorem dX6_common_48 : decode cX6_common 48 = .ok (.lstore 4, 2) := by decide +kernel
theorem dX6_common_50 : decode cX6_common 50 = .ok (.goto (-22), 3) := by decide +kernel
theorem dX6_common_53 : decode cX6_common 53 = .ok (.lload 6, 2) := by decide +kernel
theorem dX6_common_55 : decode cX6_common 55 = .ok (.lreturn, 1) := by decide +kernel
set_option maxRecDepth 20000 in
theorem ggX6_mends_X6_isGate : GoodIn wsX6_mends wsX6_isGate := goodIn_r _ [4, 5, 6, 7, 3, 8] (by decide +kernel) (by decide +kernel)
set_option maxRecDepth 20000 in
theorem gX6_mends_X6_isGate : GoodIn wsX6_mends (va_wsS RX6 110 yX6_isGate wsX6_isGate) := goodIn_app (goodIn_of _ (by decide +kernel)) ggX6_mends_X6_isGate
set_option maxRecDepth 20000 in
theorem ggX6_mends_X6_solve : GoodIn wsX6_mends wsX6_solve := goodIn_r _ [12, 13, 14, 15, 16, 17, 18, 19, 20, 21, 22, 3, 23, 24, 25, 26, 27, 28, 29, 30, 31, 32, 33, 34, 35, 36, 37, 38, 39, 40, 41, 42, 43, 44, 45, 46, 47, 48, 49, 50, 51, 52, 53, 54, 55, 56, 57, 58, 59, 60, 61, 62] (by decide +kernel) (by decide +kernel)
set_option maxRecDepth 20000 in
theorem gX6_mends_X6_solve : GoodIn wsX6_mends (wsV RX6 142 RX6 yX6_solve wsX6_solve) := goodIn_app (goodIn_of _ (by decide +kernel)) ggX6_mends_X6_solve
theorem dX6_mends_0 : decode cX6_mends 0 = .ok (.iload_n 1, 1) := by decide +kernel
theorem dX6_mends_1 : decode cX6_mends 1 = .ok (.iload_n 2, 1) := by decide +kernel
theorem dX6_mends_2 : decode cX6_mends 2 = .ok (.invokestatic 110, 3) := by decide +kernel
theorem dX6_mends_5 : decode cX6_mends 5 = .ok (.ifCond .eq 12, 3) := by decide +kernel
theorem dX6_mends_8 : decode cX6_mends 8 = .ok (.aload_n 0, 1) := by decide +kernel
theorem dX6_mends_9 : decode cX6_mends 9 = .ok (.iload_n 1, 1) := by decide +kernel
theorem dX6_mends_10 : decode cX6_mends 10 = .ok (.iload_n 2, 1) := by decide +kernel
theorem dX6_mends_11 : decode cX6_mends 11 = .ok (.invokevirtual 142, 3) := by decide +kernel
theorem dX6_mends_14 : decode cX6_mends 14 = .ok (.goto 5, 3) := by decide +kernel
theorem dX6_mends_17 : decode cX6_mends 17 = .ok (.bipush (-102), 2) := by decide +kernel
theorem dX6_mends_19 : decode cX6_mends 19 = .ok (.ireturn, 1) := by decide +kernel
set_option maxRecDepth 20000 in
theorem ggX6_mend_X6_isPlace : GoodIn wsX6_mend wsX6_isPlace := goodIn_r _ [12, 13, 14, 15, 11, 16, 45, 46, 47, 48, 49, 50, 51, 52, 53, 54, 55, 56, 57, 58, 59, 60, 61, 62, 63, 64, 65, 66, 67, 68, 69] (by decide +kernel) (by decide +kernel)
set_option maxRecDepth 20000 in
theorem gX6_mend_X6_isPlace : GoodIn wsX6_mend (wsV RX6 78 RX6 yX6_isPlace wsX6_isPlace) := goodIn_app (goodIn_of _ (by decide +kernel)) ggX6_mend_X6_isPlace
set_option maxRecDepth 20000 in
theorem ggX6_mend_X6_isGate : GoodIn wsX6_mend wsX6_isGate := goodIn_r _ [19, 20, 14, 15, 11, 16] (by decide +kernel) (by decide +kernel)
set_option maxRecDepth 20000 in
theorem gX6_mend_X6_isGate : GoodIn wsX6_mend (va_wsS RX6 110 yX6_isGate wsX6_isGate) := goodIn_app (goodIn_of _ (by decide +kernel)) ggX6_mend_X6_isGate
set_option maxRecDepth 20000 in
theorem ggX6_mend_X6_in : GoodIn wsX6_mend wsX6_in := goodIn_r _ [16] (by decide +kernel) (by decide +kernel)
set_option maxRecDepth 20000 in
theorem gX6_mend_X6_in : GoodIn wsX6_mend (va_wsS RX6 74 yX6_in wsX6_in) := goodIn_app (goodIn_of _ (by decide +kernel)) ggX6_mend_X6_in
set_option maxRecDepth 20000 in
theorem ggX6_mend_X6_solve : GoodIn wsX6_mend wsX6_solve := goodIn_r _ [24, 25, 13, 1, 5, 26, 27, 6, 7, 28, 29, 11, 30, 31, 32, 33, 34, 35, 36, 37, 38, 39, 40, 41, 42, 43, 44, 45, 46, 47, 48, 49, 50, 51, 52, 53, 54, 55, 56, 57, 58, 59, 60, 61, 62, 63, 64, 65, 66, 67, 68, 69] (by decide +kernel) (by decide +kernel)
set_option maxRecDepth 20000 in
theorem gX6_mend_X6_solve : GoodIn wsX6_mend (wsV RX6 142 RX6 yX6_solve wsX6_solve) := goodIn_app (goodIn_of _ (by decide +kernel)) ggX6_mend_X6_solve
set_option maxRecDepth 20000 in
theorem ggX6_mend_X6_common : GoodIn wsX6_mend wsX6_common := goodIn_r _ [44] (by decide +kernel) (by decide +kernel)
set_option maxRecDepth 20000 in
theorem gX6_mend_X6_common : GoodIn wsX6_mend (va_wsS RX6 138 yX6_common wsX6_common) := goodIn_app (goodIn_of _ (by decide +kernel)) ggX6_mend_X6_common
theorem dX6_mend_0 : decode cX6_mend 0 = .ok (.aload_n 0, 1) := by decide +kernel
theorem dX6_mend_1 : decode cX6_mend 1 = .ok (.iload_n 1, 1) := by decide +kernel
theorem dX6_mend_2 : decode cX6_mend 2 = .ok (.invokevirtual 78, 3) := by decide +kernel
theorem dX6_mend_5 : decode cX6_mend 5 = .ok (.ifCond .eq 12, 3) := by decide +kernel
theorem dX6_mend_8 : decode cX6_mend 8 = .ok (.aload_n 0, 1) := by decide +kernel
theorem dX6_mend_9 : decode cX6_mend 9 = .ok (.getfield 19, 3) := by decide +kernel
theorem dX6_mend_12 : decode cX6_mend 12 = .ok (.iload_n 1, 1) := by decide +kernel
theorem dX6_mend_13 : decode cX6_mend 13 = .ok (.baload, 1) := by decide +kernel
theorem dX6_mend_14 : decode cX6_mend 14 = .ok (.ifCond .ne 7, 3) := by decide +kernel
theorem dX6_mend_17 : decode cX6_mend 17 = .ok (.ldc2_w 145, 3) := by decide +kernel
theorem dX6_mend_20 : decode cX6_mend 20 = .ok (.lreturn, 1) := by decide +kernel
theorem dX6_mend_21 : decode cX6_mend 21 = .ok (.iload_n 2, 1) := by decide +kernel
theorem dX6_mend_22 : decode cX6_mend 22 = .ok (.iload_n 3, 1) := by decide +kernel
theorem dX6_mend_23 : decode cX6_mend 23 = .ok (.invokestatic 110, 3) := by decide +kernel
theorem dX6_mend_26 : decode cX6_mend 26 = .ok (.ifCond .eq 14, 3) := by decide +kernel
theorem dX6_mend_29 : decode cX6_mend 29 = .ok (.iload 4, 2) := by decide +kernel
theorem dX6_mend_31 : decode cX6_mend 31 = .ok (.i2l, 1) := by decide +kernel
theorem dX6_mend_32 : decode cX6_mend 32 = .ok (.lconst 0, 1) := by decide +kernel
theorem dX6_mend_33 : decode cX6_mend 33 = .ok (.lconst 1, 1) := by decide +kernel
theorem dX6_mend_34 : decode cX6_mend 34 = .ok (.invokestatic 74, 3) := by decide +kernel
theorem dX6_mend_37 : decode cX6_mend 37 = .ok (.ifCond .ne 7, 3) := by decide +kernel
theorem dX6_mend_40 : decode cX6_mend 40 = .ok (.ldc2_w 147, 3) := by decide +kernel
theorem dX6_mend_43 : decode cX6_mend 43 = .ok (.lreturn, 1) := by decide +kernel
theorem dX6_mend_44 : decode cX6_mend 44 = .ok (.aload_n 0, 1) := by decide +kernel
theorem dX6_mend_45 : decode cX6_mend 45 = .ok (.iload_n 2, 1) := by decide +kernel
theorem dX6_mend_46 : decode cX6_mend 46 = .ok (.iload_n 3, 1) := by decide +kernel
theorem dX6_mend_47 : decode cX6_mend 47 = .ok (.invokevirtual 142, 3) := by decide +kernel
theorem dX6_mend_50 : decode cX6_mend 50 = .ok (.iconst 1, 1) := by decide +kernel
theorem dX6_mend_51 : decode cX6_mend 51 = .ok (.if_icmp .eq 7, 3) := by decide +kernel
theorem dX6_mend_54 : decode cX6_mend 54 = .ok (.ldc2_w 149, 3) := by decide +kernel
theorem dX6_mend_57 : decode cX6_mend 57 = .ok (.lreturn, 1) := by decide +kernel
theorem dX6_mend_58 : decode cX6_mend 58 = .ok (.iconst 0, 1) := by decide +kernel
theorem dX6_mend_59 : decode cX6_mend 59 = .ok (.istore 5, 2) := by decide +kernel
theorem dX6_mend_61 : decode cX6_mend 61 = .ok (.aload_n 0, 1) := by decide +kernel
theorem dX6_mend_62 : decode cX6_mend 62 = .ok (.getfield 36, 3) := by decide +kernel
theorem dX6_mend_65 : decode cX6_mend 65 = .ok (.iload 5, 2) := by decide +kernel
theorem dX6_mend_67 : decode cX6_mend 67 = .ok (.iaload, 1) := by decide +kernel
theorem dX6_mend_68 : decode cX6_mend 68 = .ok (.iload_n 1, 1) := by decide +kernel
theorem dX6_mend_69 : decode cX6_mend 69 = .ok (.if_icmp .eq 9, 3) := by decide +kernel
theorem dX6_mend_72 : decode cX6_mend 72 = .ok (.iinc 5 1, 3) := by decide +kernel
theorem dX6_mend_75 : decode cX6_mend 75 = .ok (.goto (-14), 3) := by decide +kernel
theorem dX6_mend_78 : decode cX6_mend 78 = .ok (.aload_n 0, 1) := by decide +kernel
theorem dX6_mend_79 : decode cX6_mend 79 = .ok (.getfield 32, 3) := by decide +kernel
theorem dX6_mend_82 : decode cX6_mend 82 = .ok (.bipush 6, 2) := by decide +kernel
theorem dX6_mend_84 : decode cX6_mend 84 = .ok (.aload_n 0, 1) := by decide +kernel
theorem dX6_mend_85 : decode cX6_mend 85 = .ok (.getfield 39, 3) := by decide +kernel
theorem dX6_mend_88 : decode cX6_mend 88 = .ok (.iload 5, 2) := by decide +kernel
theorem dX6_mend_90 : decode cX6_mend 90 = .ok (.iaload, 1) := by decide +kernel
theorem dX6_mend_91 : decode cX6_mend 91 = .ok (.imul, 1) := by decide +kernel
theorem dX6_mend_92 : decode cX6_mend 92 = .ok (.iload 5, 2) := by decide +kernel
theorem dX6_mend_94 : decode cX6_mend 94 = .ok (.iadd, 1) := by decide +kernel
theorem dX6_mend_95 : decode cX6_mend 95 = .ok (.laload, 1) := by decide +kernel
theorem dX6_mend_96 : decode cX6_mend 96 = .ok (.lstore 6, 2) := by decide +kernel
theorem dX6_mend_98 : decode cX6_mend 98 = .ok (.aload_n 0, 1) := by decide +kernel
theorem dX6_mend_99 : decode cX6_mend 99 = .ok (.getfield 32, 3) := by decide +kernel
theorem dX6_mend_102 : decode cX6_mend 102 = .ok (.bipush 6, 2) := by decide +kernel
theorem dX6_mend_104 : decode cX6_mend 104 = .ok (.aload_n 0, 1) := by decide +kernel
theorem dX6_mend_105 : decode cX6_mend 105 = .ok (.getfield 39, 3) := by decide +kernel
theorem dX6_mend_108 : decode cX6_mend 108 = .ok (.iload 5, 2) := by decide +kernel
theorem dX6_mend_110 : decode cX6_mend 110 = .ok (.iaload, 1) := by decide +kernel
theorem dX6_mend_111 : decode cX6_mend 111 = .ok (.imul, 1) := by decide +kernel
theorem dX6_mend_112 : decode cX6_mend 112 = .ok (.iconst 5, 1) := by decide +kernel
theorem dX6_mend_113 : decode cX6_mend 113 = .ok (.iadd, 1) := by decide +kernel
theorem dX6_mend_114 : decode cX6_mend 114 = .ok (.laload, 1) := by decide +kernel
theorem dX6_mend_115 : decode cX6_mend 115 = .ok (.lstore 8, 2) := by decide +kernel
theorem dX6_mend_117 : decode cX6_mend 117 = .ok (.lload 8, 2) := by decide +kernel
theorem dX6_mend_119 : decode cX6_mend 119 = .ok (.lload 6, 2) := by decide +kernel
theorem dX6_mend_121 : decode cX6_mend 121 = .ok (.invokestatic 138, 3) := by decide +kernel
theorem dX6_mend_124 : decode cX6_mend 124 = .ok (.lstore 10, 2) := by decide +kernel
theorem dX6_mend_126 : decode cX6_mend 126 = .ok (.lload 6, 2) := by decide +kernel
theorem dX6_mend_128 : decode cX6_mend 128 = .ok (.lconst 0, 1) := by decide +kernel
theorem dX6_mend_129 : decode cX6_mend 129 = .ok (.lcmp, 1) := by decide +kernel
theorem dX6_mend_130 : decode cX6_mend 130 = .ok (.ifCond .ge 9, 3) := by decide +kernel
theorem dX6_mend_133 : decode cX6_mend 133 = .ok (.lload 10, 2) := by decide +kernel
theorem dX6_mend_135 : decode cX6_mend 135 = .ok (.lneg, 1) := by decide +kernel
theorem dX6_mend_136 : decode cX6_mend 136 = .ok (.goto 5, 3) := by decide +kernel
theorem dX6_mend_139 : decode cX6_mend 139 = .ok (.lload 10, 2) := by decide +kernel
theorem dX6_mend_141 : decode cX6_mend 141 = .ok (.lstore 10, 2) := by decide +kernel
theorem dX6_mend_143 : decode cX6_mend 143 = .ok (.iload 4, 2) := by decide +kernel
theorem dX6_mend_145 : decode cX6_mend 145 = .ok (.ifCond .ne 11, 3) := by decide +kernel
theorem dX6_mend_148 : decode cX6_mend 148 = .ok (.lload 8, 2) := by decide +kernel
theorem dX6_mend_150 : decode cX6_mend 150 = .ok (.lload 10, 2) := by decide +kernel
theorem dX6_mend_152 : decode cX6_mend 152 = .ok (.ldiv, 1) := by decide +kernel
theorem dX6_mend_153 : decode cX6_mend 153 = .ok (.goto 8, 3) := by decide +kernel
theorem dX6_mend_156 : decode cX6_mend 156 = .ok (.lload 6, 2) := by decide +kernel
theorem dX6_mend_158 : decode cX6_mend 158 = .ok (.lload 10, 2) := by decide +kernel
theorem dX6_mend_160 : decode cX6_mend 160 = .ok (.ldiv, 1) := by decide +kernel
theorem dX6_mend_161 : decode cX6_mend 161 = .ok (.lreturn, 1) := by decide +kernel
set_option maxRecDepth 20000 in
theorem ggX6_sheet_X6_in : GoodIn wsX6_sheet wsX6_in := goodIn_r _ [9] (by decide +kernel) (by decide +kernel)
set_option maxRecDepth 20000 in
theorem gX6_sheet_X6_in : GoodIn wsX6_sheet (va_wsS RX6 74 yX6_in wsX6_in) := goodIn_app (goodIn_of _ (by decide +kernel)) ggX6_sheet_X6_in
theorem dX6_sheet_0 : decode cX6_sheet 0 = .ok (.iload_n 1, 1) := by decide +kernel
theorem dX6_sheet_1 : decode cX6_sheet 1 = .ok (.i2l, 1) := by decide +kernel
theorem dX6_sheet_2 : decode cX6_sheet 2 = .ok (.ldc2_w 151, 3) := by decide +kernel
theorem dX6_sheet_5 : decode cX6_sheet 5 = .ok (.ldc2_w 153, 3) := by decide +kernel
theorem dX6_sheet_8 : decode cX6_sheet 8 = .ok (.invokestatic 74, 3) := by decide +kernel
theorem dX6_sheet_11 : decode cX6_sheet 11 = .ok (.ifCond .eq 15, 3) := by decide +kernel
theorem dX6_sheet_14 : decode cX6_sheet 14 = .ok (.iload_n 2, 1) := by decide +kernel
theorem dX6_sheet_15 : decode cX6_sheet 15 = .ok (.i2l, 1) := by decide +kernel
theorem dX6_sheet_16 : decode cX6_sheet 16 = .ok (.lconst 1, 1) := by decide +kernel
theorem dX6_sheet_17 : decode cX6_sheet 17 = .ok (.ldc2_w 153, 3) := by decide +kernel
theorem dX6_sheet_20 : decode cX6_sheet 20 = .ok (.invokestatic 74, 3) := by decide +kernel
theorem dX6_sheet_23 : decode cX6_sheet 23 = .ok (.ifCond .ne 6, 3) := by decide +kernel
theorem dX6_sheet_26 : decode cX6_sheet 26 = .ok (.bipush (-102), 2) := by decide +kernel
theorem dX6_sheet_28 : decode cX6_sheet 28 = .ok (.ireturn, 1) := by decide +kernel
theorem dX6_sheet_29 : decode cX6_sheet 29 = .ok (.aload_n 0, 1) := by decide +kernel
theorem dX6_sheet_30 : decode cX6_sheet 30 = .ok (.iload_n 1, 1) := by decide +kernel
theorem dX6_sheet_31 : decode cX6_sheet 31 = .ok (.putfield 58, 3) := by decide +kernel
theorem dX6_sheet_34 : decode cX6_sheet 34 = .ok (.aload_n 0, 1) := by decide +kernel
theorem dX6_sheet_35 : decode cX6_sheet 35 = .ok (.iload_n 2, 1) := by decide +kernel
theorem dX6_sheet_36 : decode cX6_sheet 36 = .ok (.putfield 62, 3) := by decide +kernel
theorem dX6_sheet_39 : decode cX6_sheet 39 = .ok (.iconst 0, 1) := by decide +kernel
theorem dX6_sheet_40 : decode cX6_sheet 40 = .ok (.istore_n 3, 1) := by decide +kernel
theorem dX6_sheet_41 : decode cX6_sheet 41 = .ok (.iload_n 3, 1) := by decide +kernel
theorem dX6_sheet_42 : decode cX6_sheet 42 = .ok (.bipush 81, 2) := by decide +kernel
theorem dX6_sheet_44 : decode cX6_sheet 44 = .ok (.if_icmp .ge 16, 3) := by decide +kernel
theorem dX6_sheet_47 : decode cX6_sheet 47 = .ok (.aload_n 0, 1) := by decide +kernel
theorem dX6_sheet_48 : decode cX6_sheet 48 = .ok (.getfield 42, 3) := by decide +kernel
theorem dX6_sheet_51 : decode cX6_sheet 51 = .ok (.iload_n 3, 1) := by decide +kernel
theorem dX6_sheet_52 : decode cX6_sheet 52 = .ok (.iconst 0, 1) := by decide +kernel
theorem dX6_sheet_53 : decode cX6_sheet 53 = .ok (.iastore, 1) := by decide +kernel
theorem dX6_sheet_54 : decode cX6_sheet 54 = .ok (.iinc 3 1, 3) := by decide +kernel
theorem dX6_sheet_57 : decode cX6_sheet 57 = .ok (.goto (-16), 3) := by decide +kernel
theorem dX6_sheet_60 : decode cX6_sheet 60 = .ok (.iload_n 1, 1) := by decide +kernel
theorem dX6_sheet_61 : decode cX6_sheet 61 = .ok (.iload_n 2, 1) := by decide +kernel
theorem dX6_sheet_62 : decode cX6_sheet 62 = .ok (.imul, 1) := by decide +kernel
theorem dX6_sheet_63 : decode cX6_sheet 63 = .ok (.ireturn, 1) := by decide +kernel
set_option maxRecDepth 20000 in
theorem ggX6_cell_X6_in : GoodIn wsX6_cell wsX6_in := goodIn_r _ [9] (by decide +kernel) (by decide +kernel)
set_option maxRecDepth 20000 in
theorem gX6_cell_X6_in : GoodIn wsX6_cell (va_wsS RX6 74 yX6_in wsX6_in) := goodIn_app (goodIn_of _ (by decide +kernel)) ggX6_cell_X6_in
theorem dX6_cell_0 : decode cX6_cell 0 = .ok (.iload_n 1, 1) := by decide +kernel
theorem dX6_cell_1 : decode cX6_cell 1 = .ok (.i2l, 1) := by decide +kernel
theorem dX6_cell_2 : decode cX6_cell 2 = .ok (.lconst 0, 1) := by decide +kernel
theorem dX6_cell_3 : decode cX6_cell 3 = .ok (.aload_n 0, 1) := by decide +kernel
theorem dX6_cell_4 : decode cX6_cell 4 = .ok (.getfield 58, 3) := by decide +kernel
theorem dX6_cell_7 : decode cX6_cell 7 = .ok (.i2l, 1) := by decide +kernel
theorem dX6_cell_8 : decode cX6_cell 8 = .ok (.invokestatic 74, 3) := by decide +kernel
theorem dX6_cell_11 : decode cX6_cell 11 = .ok (.ifCond .eq 33, 3) := by decide +kernel
theorem dX6_cell_14 : decode cX6_cell 14 = .ok (.iload_n 2, 1) := by decide +kernel
theorem dX6_cell_15 : decode cX6_cell 15 = .ok (.i2l, 1) := by decide +kernel
theorem dX6_cell_16 : decode cX6_cell 16 = .ok (.lconst 0, 1) := by decide +kernel
theorem dX6_cell_17 : decode cX6_cell 17 = .ok (.aload_n 0, 1) := by decide +kernel
theorem dX6_cell_18 : decode cX6_cell 18 = .ok (.getfield 62, 3) := by decide +kernel
theorem dX6_cell_21 : decode cX6_cell 21 = .ok (.i2l, 1) := by decide +kernel
theorem dX6_cell_22 : decode cX6_cell 22 = .ok (.invokestatic 74, 3) := by decide +kernel
theorem dX6_cell_25 : decode cX6_cell 25 = .ok (.ifCond .eq 19, 3) := by decide +kernel
theorem dX6_cell_28 : decode cX6_cell 28 = .ok (.iload_n 1, 1) := by decide +kernel
theorem dX6_cell_29 : decode cX6_cell 29 = .ok (.aload_n 0, 1) := by decide +kernel
theorem dX6_cell_30 : decode cX6_cell 30 = .ok (.getfield 58, 3) := by decide +kernel
theorem dX6_cell_33 : decode cX6_cell 33 = .ok (.if_icmp .ne 15, 3) := by decide +kernel
theorem dX6_cell_36 : decode cX6_cell 36 = .ok (.iload_n 2, 1) := by decide +kernel
theorem dX6_cell_37 : decode cX6_cell 37 = .ok (.aload_n 0, 1) := by decide +kernel
theorem dX6_cell_38 : decode cX6_cell 38 = .ok (.getfield 62, 3) := by decide +kernel
theorem dX6_cell_41 : decode cX6_cell 41 = .ok (.if_icmp .ne 7, 3) := by decide +kernel
theorem dX6_cell_44 : decode cX6_cell 44 = .ok (.sipush (-10101), 3) := by decide +kernel
theorem dX6_cell_47 : decode cX6_cell 47 = .ok (.ireturn, 1) := by decide +kernel
theorem dX6_cell_48 : decode cX6_cell 48 = .ok (.iload_n 3, 1) := by decide +kernel
theorem dX6_cell_49 : decode cX6_cell 49 = .ok (.i2l, 1) := by decide +kernel
theorem dX6_cell_50 : decode cX6_cell 50 = .ok (.ldc2_w 82, 3) := by decide +kernel
theorem dX6_cell_53 : decode cX6_cell 53 = .ok (.ldc2_w 84, 3) := by decide +kernel
theorem dX6_cell_56 : decode cX6_cell 56 = .ok (.invokestatic 74, 3) := by decide +kernel
theorem dX6_cell_59 : decode cX6_cell 59 = .ok (.ifCond .ne 7, 3) := by decide +kernel
theorem dX6_cell_62 : decode cX6_cell 62 = .ok (.sipush (-10102), 3) := by decide +kernel
theorem dX6_cell_65 : decode cX6_cell 65 = .ok (.ireturn, 1) := by decide +kernel
theorem dX6_cell_66 : decode cX6_cell 66 = .ok (.aload_n 0, 1) := by decide +kernel
theorem dX6_cell_67 : decode cX6_cell 67 = .ok (.getfield 42, 3) := by decide +kernel
theorem dX6_cell_70 : decode cX6_cell 70 = .ok (.bipush 9, 2) := by decide +kernel
theorem dX6_cell_72 : decode cX6_cell 72 = .ok (.iload_n 1, 1) := by decide +kernel
theorem dX6_cell_73 : decode cX6_cell 73 = .ok (.imul, 1) := by decide +kernel
theorem dX6_cell_74 : decode cX6_cell 74 = .ok (.iload_n 2, 1) := by decide +kernel
theorem dX6_cell_75 : decode cX6_cell 75 = .ok (.iadd, 1) := by decide +kernel
theorem dX6_cell_76 : decode cX6_cell 76 = .ok (.iaload, 1) := by decide +kernel
theorem dX6_cell_77 : decode cX6_cell 77 = .ok (.istore 4, 2) := by decide +kernel
theorem dX6_cell_79 : decode cX6_cell 79 = .ok (.aload_n 0, 1) := by decide +kernel
theorem dX6_cell_80 : decode cX6_cell 80 = .ok (.getfield 42, 3) := by decide +kernel
theorem dX6_cell_83 : decode cX6_cell 83 = .ok (.bipush 9, 2) := by decide +kernel
theorem dX6_cell_85 : decode cX6_cell 85 = .ok (.iload_n 1, 1) := by decide +kernel
theorem dX6_cell_86 : decode cX6_cell 86 = .ok (.imul, 1) := by decide +kernel
theorem dX6_cell_87 : decode cX6_cell 87 = .ok (.iload_n 2, 1) := by decide +kernel
theorem dX6_cell_88 : decode cX6_cell 88 = .ok (.iadd, 1) := by decide +kernel
theorem dX6_cell_89 : decode cX6_cell 89 = .ok (.iload_n 3, 1) := by decide +kernel
theorem dX6_cell_90 : decode cX6_cell 90 = .ok (.iastore, 1) := by decide +kernel
theorem dX6_cell_91 : decode cX6_cell 91 = .ok (.iload 4, 2) := by decide +kernel
theorem dX6_cell_93 : decode cX6_cell 93 = .ok (.ireturn, 1) := by decide +kernel
set_option maxRecDepth 20000 in
theorem ggX6_closed_X6_in : GoodIn wsX6_closed wsX6_in := goodIn_r _ [7] (by decide +kernel) (by decide +kernel)
set_option maxRecDepth 20000 in
theorem gX6_closed_X6_in : GoodIn wsX6_closed (va_wsS RX6 74 yX6_in wsX6_in) := goodIn_app (goodIn_of _ (by decide +kernel)) ggX6_closed_X6_in
set_option maxRecDepth 20000 in
theorem ggX6_closed_X6_floor : GoodIn wsX6_closed wsX6_floor := goodIn_r _ [10] (by decide +kernel) (by decide +kernel)
set_option maxRecDepth 20000 in
theorem gX6_closed_X6_floor : GoodIn wsX6_closed (va_wsS RX6 155 yX6_floor wsX6_floor) := goodIn_app (goodIn_of _ (by decide +kernel)) ggX6_closed_X6_floor
theorem dX6_closed_0 : decode cX6_closed 0 = .ok (.iload_n 1, 1) := by decide +kernel
theorem dX6_closed_1 : decode cX6_closed 1 = .ok (.i2l, 1) := by decide +kernel
theorem dX6_closed_2 : decode cX6_closed 2 = .ok (.lconst 0, 1) := by decide +kernel
theorem dX6_closed_3 : decode cX6_closed 3 = .ok (.aload_n 0, 1) := by decide +kernel
theorem dX6_closed_4 : decode cX6_closed 4 = .ok (.getfield 58, 3) := by decide +kernel
theorem dX6_closed_7 : decode cX6_closed 7 = .ok (.i2l, 1) := by decide +kernel
theorem dX6_closed_8 : decode cX6_closed 8 = .ok (.invokestatic 74, 3) := by decide +kernel
theorem dX6_closed_11 : decode cX6_closed 11 = .ok (.ifCond .eq 19, 3) := by decide +kernel
theorem dX6_closed_14 : decode cX6_closed 14 = .ok (.iload_n 2, 1) := by decide +kernel
theorem dX6_closed_15 : decode cX6_closed 15 = .ok (.i2l, 1) := by decide +kernel
theorem dX6_closed_16 : decode cX6_closed 16 = .ok (.lconst 0, 1) := by decide +kernel
theorem dX6_closed_17 : decode cX6_closed 17 = .ok (.aload_n 0, 1) := by decide +kernel
theorem dX6_closed_18 : decode cX6_closed 18 = .ok (.getfield 62, 3) := by decide +kernel
theorem dX6_closed_21 : decode cX6_closed 21 = .ok (.iconst 1, 1) := by decide +kernel
theorem dX6_closed_22 : decode cX6_closed 22 = .ok (.isub, 1) := by decide +kernel
theorem dX6_closed_23 : decode cX6_closed 23 = .ok (.i2l, 1) := by decide +kernel
theorem dX6_closed_24 : decode cX6_closed 24 = .ok (.invokestatic 74, 3) := by decide +kernel
theorem dX6_closed_27 : decode cX6_closed 27 = .ok (.ifCond .ne 7, 3) := by decide +kernel
theorem dX6_closed_30 : decode cX6_closed 30 = .ok (.sipush (-10101), 3) := by decide +kernel
theorem dX6_closed_33 : decode cX6_closed 33 = .ok (.ireturn, 1) := by decide +kernel
theorem dX6_closed_34 : decode cX6_closed 34 = .ok (.aload_n 0, 1) := by decide +kernel
theorem dX6_closed_35 : decode cX6_closed 35 = .ok (.getfield 42, 3) := by decide +kernel
theorem dX6_closed_38 : decode cX6_closed 38 = .ok (.bipush 9, 2) := by decide +kernel
theorem dX6_closed_40 : decode cX6_closed 40 = .ok (.aload_n 0, 1) := by decide +kernel
theorem dX6_closed_41 : decode cX6_closed 41 = .ok (.getfield 58, 3) := by decide +kernel
theorem dX6_closed_44 : decode cX6_closed 44 = .ok (.imul, 1) := by decide +kernel
theorem dX6_closed_45 : decode cX6_closed 45 = .ok (.iload_n 2, 1) := by decide +kernel
theorem dX6_closed_46 : decode cX6_closed 46 = .ok (.iadd, 1) := by decide +kernel
theorem dX6_closed_47 : decode cX6_closed 47 = .ok (.iaload, 1) := by decide +kernel
theorem dX6_closed_48 : decode cX6_closed 48 = .ok (.aload_n 0, 1) := by decide +kernel
theorem dX6_closed_49 : decode cX6_closed 49 = .ok (.getfield 42, 3) := by decide +kernel
theorem dX6_closed_52 : decode cX6_closed 52 = .ok (.iload_n 2, 1) := by decide +kernel
theorem dX6_closed_53 : decode cX6_closed 53 = .ok (.iaload, 1) := by decide +kernel
theorem dX6_closed_54 : decode cX6_closed 54 = .ok (.isub, 1) := by decide +kernel
theorem dX6_closed_55 : decode cX6_closed 55 = .ok (.istore_n 3, 1) := by decide +kernel
theorem dX6_closed_56 : decode cX6_closed 56 = .ok (.aload_n 0, 1) := by decide +kernel
theorem dX6_closed_57 : decode cX6_closed 57 = .ok (.getfield 42, 3) := by decide +kernel
theorem dX6_closed_60 : decode cX6_closed 60 = .ok (.bipush 9, 2) := by decide +kernel
theorem dX6_closed_62 : decode cX6_closed 62 = .ok (.iload_n 1, 1) := by decide +kernel
theorem dX6_closed_63 : decode cX6_closed 63 = .ok (.imul, 1) := by decide +kernel
theorem dX6_closed_64 : decode cX6_closed 64 = .ok (.iload_n 2, 1) := by decide +kernel
theorem dX6_closed_65 : decode cX6_closed 65 = .ok (.iadd, 1) := by decide +kernel
theorem dX6_closed_66 : decode cX6_closed 66 = .ok (.iaload, 1) := by decide +kernel
theorem dX6_closed_67 : decode cX6_closed 67 = .ok (.iload_n 3, 1) := by decide +kernel
theorem dX6_closed_68 : decode cX6_closed 68 = .ok (.iload_n 1, 1) := by decide +kernel
theorem dX6_closed_69 : decode cX6_closed 69 = .ok (.imul, 1) := by decide +kernel
theorem dX6_closed_70 : decode cX6_closed 70 = .ok (.aload_n 0, 1) := by decide +kernel
theorem dX6_closed_71 : decode cX6_closed 71 = .ok (.getfield 58, 3) := by decide +kernel
theorem dX6_closed_74 : decode cX6_closed 74 = .ok (.invokestatic 155, 3) := by decide +kernel
theorem dX6_closed_77 : decode cX6_closed 77 = .ok (.isub, 1) := by decide +kernel
theorem dX6_closed_78 : decode cX6_closed 78 = .ok (.ireturn, 1) := by decide +kernel
set_option maxRecDepth 20000 in
theorem ggX6_tied_X6_in : GoodIn wsX6_tied wsX6_in := goodIn_r _ [7] (by decide +kernel) (by decide +kernel)
set_option maxRecDepth 20000 in
theorem gX6_tied_X6_in : GoodIn wsX6_tied (va_wsS RX6 74 yX6_in wsX6_in) := goodIn_app (goodIn_of _ (by decide +kernel)) ggX6_tied_X6_in
theorem dX6_tied_0 : decode cX6_tied 0 = .ok (.iload_n 1, 1) := by decide +kernel
theorem dX6_tied_1 : decode cX6_tied 1 = .ok (.i2l, 1) := by decide +kernel
theorem dX6_tied_2 : decode cX6_tied 2 = .ok (.lconst 0, 1) := by decide +kernel
theorem dX6_tied_3 : decode cX6_tied 3 = .ok (.aload_n 0, 1) := by decide +kernel
theorem dX6_tied_4 : decode cX6_tied 4 = .ok (.getfield 58, 3) := by decide +kernel
theorem dX6_tied_7 : decode cX6_tied 7 = .ok (.iconst 1, 1) := by decide +kernel
theorem dX6_tied_8 : decode cX6_tied 8 = .ok (.isub, 1) := by decide +kernel
theorem dX6_tied_9 : decode cX6_tied 9 = .ok (.i2l, 1) := by decide +kernel
theorem dX6_tied_10 : decode cX6_tied 10 = .ok (.invokestatic 74, 3) := by decide +kernel
theorem dX6_tied_13 : decode cX6_tied 13 = .ok (.ifCond .eq 19, 3) := by decide +kernel
theorem dX6_tied_16 : decode cX6_tied 16 = .ok (.iload_n 2, 1) := by decide +kernel
theorem dX6_tied_17 : decode cX6_tied 17 = .ok (.i2l, 1) := by decide +kernel
theorem dX6_tied_18 : decode cX6_tied 18 = .ok (.lconst 0, 1) := by decide +kernel
theorem dX6_tied_19 : decode cX6_tied 19 = .ok (.aload_n 0, 1) := by decide +kernel
theorem dX6_tied_20 : decode cX6_tied 20 = .ok (.getfield 62, 3) := by decide +kernel
theorem dX6_tied_23 : decode cX6_tied 23 = .ok (.iconst 1, 1) := by decide +kernel
theorem dX6_tied_24 : decode cX6_tied 24 = .ok (.isub, 1) := by decide +kernel
theorem dX6_tied_25 : decode cX6_tied 25 = .ok (.i2l, 1) := by decide +kernel
theorem dX6_tied_26 : decode cX6_tied 26 = .ok (.invokestatic 74, 3) := by decide +kernel
theorem dX6_tied_29 : decode cX6_tied 29 = .ok (.ifCond .ne 7, 3) := by decide +kernel
theorem dX6_tied_32 : decode cX6_tied 32 = .ok (.sipush (-10101), 3) := by decide +kernel
theorem dX6_tied_35 : decode cX6_tied 35 = .ok (.ireturn, 1) := by decide +kernel
theorem dX6_tied_36 : decode cX6_tied 36 = .ok (.aload_n 0, 1) := by decide +kernel
theorem dX6_tied_37 : decode cX6_tied 37 = .ok (.getfield 42, 3) := by decide +kernel
theorem dX6_tied_40 : decode cX6_tied 40 = .ok (.bipush 9, 2) := by decide +kernel
theorem dX6_tied_42 : decode cX6_tied 42 = .ok (.iload_n 1, 1) := by decide +kernel
theorem dX6_tied_43 : decode cX6_tied 43 = .ok (.imul, 1) := by decide +kernel
theorem dX6_tied_44 : decode cX6_tied 44 = .ok (.iload_n 2, 1) := by decide +kernel
theorem dX6_tied_45 : decode cX6_tied 45 = .ok (.iadd, 1) := by decide +kernel
theorem dX6_tied_46 : decode cX6_tied 46 = .ok (.iaload, 1) := by decide +kernel
theorem dX6_tied_47 : decode cX6_tied 47 = .ok (.aload_n 0, 1) := by decide +kernel
theorem dX6_tied_48 : decode cX6_tied 48 = .ok (.getfield 42, 3) := by decide +kernel
theorem dX6_tied_51 : decode cX6_tied 51 = .ok (.bipush 9, 2) := by decide +kernel
theorem dX6_tied_53 : decode cX6_tied 53 = .ok (.iload_n 1, 1) := by decide +kernel
theorem dX6_tied_54 : decode cX6_tied 54 = .ok (.imul, 1) := by decide +kernel
theorem dX6_tied_55 : decode cX6_tied 55 = .ok (.aload_n 0, 1) := by decide +kernel
theorem dX6_tied_56 : decode cX6_tied 56 = .ok (.getfield 62, 3) := by decide +kernel
theorem dX6_tied_59 : decode cX6_tied 59 = .ok (.iadd, 1) := by decide +kernel
theorem dX6_tied_60 : decode cX6_tied 60 = .ok (.iaload, 1) := by decide +kernel
theorem dX6_tied_61 : decode cX6_tied 61 = .ok (.iadd, 1) := by decide +kernel
theorem dX6_tied_62 : decode cX6_tied 62 = .ok (.aload_n 0, 1) := by decide +kernel
theorem dX6_tied_63 : decode cX6_tied 63 = .ok (.getfield 42, 3) := by decide +kernel
theorem dX6_tied_66 : decode cX6_tied 66 = .ok (.bipush 9, 2) := by decide +kernel
theorem dX6_tied_68 : decode cX6_tied 68 = .ok (.iload_n 1, 1) := by decide +kernel
theorem dX6_tied_69 : decode cX6_tied 69 = .ok (.imul, 1) := by decide +kernel
theorem dX6_tied_70 : decode cX6_tied 70 = .ok (.iaload, 1) := by decide +kernel
theorem dX6_tied_71 : decode cX6_tied 71 = .ok (.isub, 1) := by decide +kernel
theorem dX6_tied_72 : decode cX6_tied 72 = .ok (.ireturn, 1) := by decide +kernel
set_option maxRecDepth 20000 in
theorem ggX6_antennas_X6_in : GoodIn wsX6_antennas wsX6_in := goodIn_r _ [9] (by decide +kernel) (by decide +kernel)
set_option maxRecDepth 20000 in
theorem gX6_antennas_X6_in : GoodIn wsX6_antennas (va_wsS RX6 74 yX6_in wsX6_in) := goodIn_app (goodIn_of _ (by decide +kernel)) ggX6_antennas_X6_in
theorem dX6_antennas_0 : decode cX6_antennas 0 = .ok (.iload_n 1, 1) := by decide +kernel
theorem dX6_antennas_1 : decode cX6_antennas 1 = .ok (.i2l, 1) := by decide +kernel
theorem dX6_antennas_2 : decode cX6_antennas 2 = .ok (.ldc2_w 158, 3) := by decide +kernel
theorem dX6_antennas_5 : decode cX6_antennas 5 = .ok (.ldc2_w 72, 3) := by decide +kernel
theorem dX6_antennas_8 : decode cX6_antennas 8 = .ok (.invokestatic 74, 3) := by decide +kernel
theorem dX6_antennas_11 : decode cX6_antennas 11 = .ok (.ifCond .ne 6, 3) := by decide +kernel
theorem dX6_antennas_14 : decode cX6_antennas 14 = .ok (.bipush (-102), 2) := by decide +kernel
theorem dX6_antennas_16 : decode cX6_antennas 16 = .ok (.ireturn, 1) := by decide +kernel
theorem dX6_antennas_17 : decode cX6_antennas 17 = .ok (.aload_n 0, 1) := by decide +kernel
theorem dX6_antennas_18 : decode cX6_antennas 18 = .ok (.iload_n 1, 1) := by decide +kernel
theorem dX6_antennas_19 : decode cX6_antennas 19 = .ok (.putfield 65, 3) := by decide +kernel
theorem dX6_antennas_22 : decode cX6_antennas 22 = .ok (.iconst 0, 1) := by decide +kernel
theorem dX6_antennas_23 : decode cX6_antennas 23 = .ok (.istore_n 2, 1) := by decide +kernel
theorem dX6_antennas_24 : decode cX6_antennas 24 = .ok (.iload_n 2, 1) := by decide +kernel
theorem dX6_antennas_25 : decode cX6_antennas 25 = .ok (.bipush 25, 2) := by decide +kernel
theorem dX6_antennas_27 : decode cX6_antennas 27 = .ok (.if_icmp .ge 23, 3) := by decide +kernel
theorem dX6_antennas_30 : decode cX6_antennas 30 = .ok (.aload_n 0, 1) := by decide +kernel
theorem dX6_antennas_31 : decode cX6_antennas 31 = .ok (.getfield 45, 3) := by decide +kernel
theorem dX6_antennas_34 : decode cX6_antennas 34 = .ok (.iload_n 2, 1) := by decide +kernel
theorem dX6_antennas_35 : decode cX6_antennas 35 = .ok (.iconst 0, 1) := by decide +kernel
theorem dX6_antennas_36 : decode cX6_antennas 36 = .ok (.bastore, 1) := by decide +kernel
theorem dX6_antennas_37 : decode cX6_antennas 37 = .ok (.aload_n 0, 1) := by decide +kernel
theorem dX6_antennas_38 : decode cX6_antennas 38 = .ok (.getfield 48, 3) := by decide +kernel
theorem dX6_antennas_41 : decode cX6_antennas 41 = .ok (.iload_n 2, 1) := by decide +kernel
theorem dX6_antennas_42 : decode cX6_antennas 42 = .ok (.iconst 0, 1) := by decide +kernel
theorem dX6_antennas_43 : decode cX6_antennas 43 = .ok (.iastore, 1) := by decide +kernel
theorem dX6_antennas_44 : decode cX6_antennas 44 = .ok (.iinc 2 1, 3) := by decide +kernel
theorem dX6_antennas_47 : decode cX6_antennas 47 = .ok (.goto (-23), 3) := by decide +kernel
theorem dX6_antennas_50 : decode cX6_antennas 50 = .ok (.iload_n 1, 1) := by decide +kernel
theorem dX6_antennas_51 : decode cX6_antennas 51 = .ok (.ireturn, 1) := by decide +kernel
set_option maxRecDepth 20000 in
theorem ggX6_together_X6_in : GoodIn wsX6_together wsX6_in := goodIn_r _ [9] (by decide +kernel) (by decide +kernel)
set_option maxRecDepth 20000 in
theorem gX6_together_X6_in : GoodIn wsX6_together (va_wsS RX6 74 yX6_in wsX6_in) := goodIn_app (goodIn_of _ (by decide +kernel)) ggX6_together_X6_in
theorem dX6_together_0 : decode cX6_together 0 = .ok (.iload_n 1, 1) := by decide +kernel
theorem dX6_together_1 : decode cX6_together 1 = .ok (.i2l, 1) := by decide +kernel
theorem dX6_together_2 : decode cX6_together 2 = .ok (.lconst 0, 1) := by decide +kernel
theorem dX6_together_3 : decode cX6_together 3 = .ok (.aload_n 0, 1) := by decide +kernel
theorem dX6_together_4 : decode cX6_together 4 = .ok (.getfield 65, 3) := by decide +kernel
theorem dX6_together_7 : decode cX6_together 7 = .ok (.iconst 1, 1) := by decide +kernel
theorem dX6_together_8 : decode cX6_together 8 = .ok (.isub, 1) := by decide +kernel
theorem dX6_together_9 : decode cX6_together 9 = .ok (.i2l, 1) := by decide +kernel
theorem dX6_together_10 : decode cX6_together 10 = .ok (.invokestatic 74, 3) := by decide +kernel
theorem dX6_together_13 : decode cX6_together 13 = .ok (.ifCond .eq 24, 3) := by decide +kernel
theorem dX6_together_16 : decode cX6_together 16 = .ok (.iload_n 2, 1) := by decide +kernel
theorem dX6_together_17 : decode cX6_together 17 = .ok (.i2l, 1) := by decide +kernel
theorem dX6_together_18 : decode cX6_together 18 = .ok (.lconst 0, 1) := by decide +kernel
theorem dX6_together_19 : decode cX6_together 19 = .ok (.aload_n 0, 1) := by decide +kernel
theorem dX6_together_20 : decode cX6_together 20 = .ok (.getfield 65, 3) := by decide +kernel
theorem dX6_together_23 : decode cX6_together 23 = .ok (.iconst 1, 1) := by decide +kernel
theorem dX6_together_24 : decode cX6_together 24 = .ok (.isub, 1) := by decide +kernel
theorem dX6_together_25 : decode cX6_together 25 = .ok (.i2l, 1) := by decide +kernel
theorem dX6_together_26 : decode cX6_together 26 = .ok (.invokestatic 74, 3) := by decide +kernel
theorem dX6_together_29 : decode cX6_together 29 = .ok (.ifCond .eq 8, 3) := by decide +kernel
theorem dX6_together_32 : decode cX6_together 32 = .ok (.iload_n 1, 1) := by decide +kernel
theorem dX6_together_33 : decode cX6_together 33 = .ok (.iload_n 2, 1) := by decide +kernel
theorem dX6_together_34 : decode cX6_together 34 = .ok (.if_icmp .ne 6, 3) := by decide +kernel
theorem dX6_together_37 : decode cX6_together 37 = .ok (.bipush (-101), 2) := by decide +kernel
theorem dX6_together_39 : decode cX6_together 39 = .ok (.ireturn, 1) := by decide +kernel
theorem dX6_together_40 : decode cX6_together 40 = .ok (.iload_n 3, 1) := by decide +kernel
theorem dX6_together_41 : decode cX6_together 41 = .ok (.i2l, 1) := by decide +kernel
theorem dX6_together_42 : decode cX6_together 42 = .ok (.ldc2_w 160, 3) := by decide +kernel
theorem dX6_together_45 : decode cX6_together 45 = .ok (.ldc2_w 162, 3) := by decide +kernel
theorem dX6_together_48 : decode cX6_together 48 = .ok (.invokestatic 74, 3) := by decide +kernel
theorem dX6_together_51 : decode cX6_together 51 = .ok (.ifCond .ne 6, 3) := by decide +kernel
theorem dX6_together_54 : decode cX6_together 54 = .ok (.bipush (-102), 2) := by decide +kernel
theorem dX6_together_56 : decode cX6_together 56 = .ok (.ireturn, 1) := by decide +kernel
theorem dX6_together_57 : decode cX6_together 57 = .ok (.aload_n 0, 1) := by decide +kernel
theorem dX6_together_58 : decode cX6_together 58 = .ok (.getfield 45, 3) := by decide +kernel
theorem dX6_together_61 : decode cX6_together 61 = .ok (.iconst 5, 1) := by decide +kernel
theorem dX6_together_62 : decode cX6_together 62 = .ok (.iload_n 1, 1) := by decide +kernel
theorem dX6_together_63 : decode cX6_together 63 = .ok (.imul, 1) := by decide +kernel
theorem dX6_together_64 : decode cX6_together 64 = .ok (.iload_n 2, 1) := by decide +kernel
theorem dX6_together_65 : decode cX6_together 65 = .ok (.iadd, 1) := by decide +kernel
theorem dX6_together_66 : decode cX6_together 66 = .ok (.baload, 1) := by decide +kernel
theorem dX6_together_67 : decode cX6_together 67 = .ok (.ifCond .eq 7, 3) := by decide +kernel
theorem dX6_together_70 : decode cX6_together 70 = .ok (.iconst 1, 1) := by decide +kernel
theorem dX6_together_71 : decode cX6_together 71 = .ok (.goto 4, 3) := by decide +kernel
theorem dX6_together_74 : decode cX6_together 74 = .ok (.iconst 0, 1) := by decide +kernel
theorem dX6_together_75 : decode cX6_together 75 = .ok (.istore 5, 2) := by decide +kernel
theorem dX6_together_77 : decode cX6_together 77 = .ok (.aload_n 0, 1) := by decide +kernel
theorem dX6_together_78 : decode cX6_together 78 = .ok (.getfield 45, 3) := by decide +kernel
theorem dX6_together_81 : decode cX6_together 81 = .ok (.iconst 5, 1) := by decide +kernel
theorem dX6_together_82 : decode cX6_together 82 = .ok (.iload_n 1, 1) := by decide +kernel
theorem dX6_together_83 : decode cX6_together 83 = .ok (.imul, 1) := by decide +kernel
theorem dX6_together_84 : decode cX6_together 84 = .ok (.iload_n 2, 1) := by decide +kernel
theorem dX6_together_85 : decode cX6_together 85 = .ok (.iadd, 1) := by decide +kernel
theorem dX6_together_86 : decode cX6_together 86 = .ok (.iload 4, 2) := by decide +kernel
theorem dX6_together_88 : decode cX6_together 88 = .ok (.bastore, 1) := by decide +kernel
theorem dX6_together_89 : decode cX6_together 89 = .ok (.aload_n 0, 1) := by decide +kernel
theorem dX6_together_90 : decode cX6_together 90 = .ok (.getfield 45, 3) := by decide +kernel
theorem dX6_together_93 : decode cX6_together 93 = .ok (.iconst 5, 1) := by decide +kernel
theorem dX6_together_94 : decode cX6_together 94 = .ok (.iload_n 2, 1) := by decide +kernel
theorem dX6_together_95 : decode cX6_together 95 = .ok (.imul, 1) := by decide +kernel
theorem dX6_together_96 : decode cX6_together 96 = .ok (.iload_n 1, 1) := by decide +kernel
theorem dX6_together_97 : decode cX6_together 97 = .ok (.iadd, 1) := by decide +kernel
theorem dX6_together_98 : decode cX6_together 98 = .ok (.iload 4, 2) := by decide +kernel
theorem dX6_together_100 : decode cX6_together 100 = .ok (.bastore, 1) := by decide +kernel
theorem dX6_together_101 : decode cX6_together 101 = .ok (.aload_n 0, 1) := by decide +kernel
theorem dX6_together_102 : decode cX6_together 102 = .ok (.getfield 48, 3) := by decide +kernel
theorem dX6_together_105 : decode cX6_together 105 = .ok (.iconst 5, 1) := by decide +kernel
theorem dX6_together_106 : decode cX6_together 106 = .ok (.iload_n 1, 1) := by decide +kernel
theorem dX6_together_107 : decode cX6_together 107 = .ok (.imul, 1) := by decide +kernel
theorem dX6_together_108 : decode cX6_together 108 = .ok (.iload_n 2, 1) := by decide +kernel
theorem dX6_together_109 : decode cX6_together 109 = .ok (.iadd, 1) := by decide +kernel
theorem dX6_together_110 : decode cX6_together 110 = .ok (.iload 4, 2) := by decide +kernel
theorem dX6_together_112 : decode cX6_together 112 = .ok (.ifCond .eq 7, 3) := by decide +kernel
theorem dX6_together_115 : decode cX6_together 115 = .ok (.iload_n 3, 1) := by decide +kernel
theorem dX6_together_116 : decode cX6_together 116 = .ok (.goto 4, 3) := by decide +kernel
theorem dX6_together_119 : decode cX6_together 119 = .ok (.iconst 0, 1) := by decide +kernel
theorem dX6_together_120 : decode cX6_together 120 = .ok (.iastore, 1) := by decide +kernel
theorem dX6_together_121 : decode cX6_together 121 = .ok (.aload_n 0, 1) := by decide +kernel
theorem dX6_together_122 : decode cX6_together 122 = .ok (.getfield 48, 3) := by decide +kernel
theorem dX6_together_125 : decode cX6_together 125 = .ok (.iconst 5, 1) := by decide +kernel
theorem dX6_together_126 : decode cX6_together 126 = .ok (.iload_n 2, 1) := by decide +kernel
theorem dX6_together_127 : decode cX6_together 127 = .ok (.imul, 1) := by decide +kernel
theorem dX6_together_128 : decode cX6_together 128 = .ok (.iload_n 1, 1) := by decide +kernel
theorem dX6_together_129 : decode cX6_together 129 = .ok (.iadd, 1) := by decide +kernel
theorem dX6_together_130 : decode cX6_together 130 = .ok (.iload 4, 2) := by decide +kernel
theorem dX6_together_132 : decode cX6_together 132 = .ok (.ifCond .eq 7, 3) := by decide +kernel
theorem dX6_together_135 : decode cX6_together 135 = .ok (.iload_n 3, 1) := by decide +kernel
theorem dX6_together_136 : decode cX6_together 136 = .ok (.goto 4, 3) := by decide +kernel
theorem dX6_together_139 : decode cX6_together 139 = .ok (.iconst 0, 1) := by decide +kernel
theorem dX6_together_140 : decode cX6_together 140 = .ok (.iastore, 1) := by decide +kernel
theorem dX6_together_141 : decode cX6_together 141 = .ok (.iload 5, 2) := by decide +kernel
theorem dX6_together_143 : decode cX6_together 143 = .ok (.ireturn, 1) := by decide +kernel
theorem dX6_findThrees_0 : decode cX6_findThrees 0 = .ok (.aload_n 0, 1) := by decide +kernel
theorem dX6_findThrees_1 : decode cX6_findThrees 1 = .ok (.iconst 0, 1) := by decide +kernel
theorem dX6_findThrees_2 : decode cX6_findThrees 2 = .ok (.putfield 164, 3) := by decide +kernel
theorem dX6_findThrees_5 : decode cX6_findThrees 5 = .ok (.iconst 0, 1) := by decide +kernel
theorem dX6_findThrees_6 : decode cX6_findThrees 6 = .ok (.istore_n 2, 1) := by decide +kernel
theorem dX6_findThrees_7 : decode cX6_findThrees 7 = .ok (.iload_n 2, 1) := by decide +kernel
theorem dX6_findThrees_8 : decode cX6_findThrees 8 = .ok (.aload_n 0, 1) := by decide +kernel
theorem dX6_findThrees_9 : decode cX6_findThrees 9 = .ok (.getfield 65, 3) := by decide +kernel
theorem dX6_findThrees_12 : decode cX6_findThrees 12 = .ok (.if_icmp .ge 198, 3) := by decide +kernel
theorem dX6_findThrees_15 : decode cX6_findThrees 15 = .ok (.iload_n 2, 1) := by decide +kernel
theorem dX6_findThrees_16 : decode cX6_findThrees 16 = .ok (.iconst 1, 1) := by decide +kernel
theorem dX6_findThrees_17 : decode cX6_findThrees 17 = .ok (.iadd, 1) := by decide +kernel
theorem dX6_findThrees_18 : decode cX6_findThrees 18 = .ok (.istore_n 3, 1) := by decide +kernel
theorem dX6_findThrees_19 : decode cX6_findThrees 19 = .ok (.iload_n 3, 1) := by decide +kernel
theorem dX6_findThrees_20 : decode cX6_findThrees 20 = .ok (.aload_n 0, 1) := by decide +kernel
theorem dX6_findThrees_21 : decode cX6_findThrees 21 = .ok (.getfield 65, 3) := by decide +kernel
theorem dX6_findThrees_24 : decode cX6_findThrees 24 = .ok (.if_icmp .ge 180, 3) := by decide +kernel
theorem dX6_findThrees_27 : decode cX6_findThrees 27 = .ok (.iload_n 1, 1) := by decide +kernel
theorem dX6_findThrees_28 : decode cX6_findThrees 28 = .ok (.iload_n 2, 1) := by decide +kernel
theorem dX6_findThrees_29 : decode cX6_findThrees 29 = .ok (.if_icmp .eq 169, 3) := by decide +kernel
theorem dX6_findThrees_32 : decode cX6_findThrees 32 = .ok (.iload_n 1, 1) := by decide +kernel
theorem dX6_findThrees_33 : decode cX6_findThrees 33 = .ok (.iload_n 3, 1) := by decide +kernel
theorem dX6_findThrees_34 : decode cX6_findThrees 34 = .ok (.if_icmp .eq 164, 3) := by decide +kernel
theorem dX6_findThrees_37 : decode cX6_findThrees 37 = .ok (.aload_n 0, 1) := by decide +kernel
theorem dX6_findThrees_38 : decode cX6_findThrees 38 = .ok (.getfield 45, 3) := by decide +kernel
theorem dX6_findThrees_41 : decode cX6_findThrees 41 = .ok (.iconst 5, 1) := by decide +kernel
theorem dX6_findThrees_42 : decode cX6_findThrees 42 = .ok (.iload_n 1, 1) := by decide +kernel
theorem dX6_findThrees_43 : decode cX6_findThrees 43 = .ok (.imul, 1) := by decide +kernel
theorem dX6_findThrees_44 : decode cX6_findThrees 44 = .ok (.iload_n 2, 1) := by decide +kernel
theorem dX6_findThrees_45 : decode cX6_findThrees 45 = .ok (.iadd, 1) := by decide +kernel
theorem dX6_findThrees_46 : decode cX6_findThrees 46 = .ok (.baload, 1) := by decide +kernel
theorem dX6_findThrees_47 : decode cX6_findThrees 47 = .ok (.ifCond .eq 151, 3) := by decide +kernel
theorem dX6_findThrees_50 : decode cX6_findThrees 50 = .ok (.aload_n 0, 1) := by decide +kernel
theorem dX6_findThrees_51 : decode cX6_findThrees 51 = .ok (.getfield 45, 3) := by decide +kernel
theorem dX6_findThrees_54 : decode cX6_findThrees 54 = .ok (.iconst 5, 1) := by decide +kernel
theorem dX6_findThrees_55 : decode cX6_findThrees 55 = .ok (.iload_n 1, 1) := by decide +kernel
theorem dX6_findThrees_56 : decode cX6_findThrees 56 = .ok (.imul, 1) := by decide +kernel
theorem dX6_findThrees_57 : decode cX6_findThrees 57 = .ok (.iload_n 3, 1) := by decide +kernel
theorem dX6_findThrees_58 : decode cX6_findThrees 58 = .ok (.iadd, 1) := by decide +kernel
theorem dX6_findThrees_59 : decode cX6_findThrees 59 = .ok (.baload, 1) := by decide +kernel
theorem dX6_findThrees_60 : decode cX6_findThrees 60 = .ok (.ifCond .eq 138, 3) := by decide +kernel
theorem dX6_findThrees_63 : decode cX6_findThrees 63 = .ok (.aload_n 0, 1) := by decide +kernel
theorem dX6_findThrees_64 : decode cX6_findThrees 64 = .ok (.getfield 45, 3) := by decide +kernel
theorem dX6_findThrees_67 : decode cX6_findThrees 67 = .ok (.iconst 5, 1) := by decide +kernel
theorem dX6_findThrees_68 : decode cX6_findThrees 68 = .ok (.iload_n 2, 1) := by decide +kernel
theorem dX6_findThrees_69 : decode cX6_findThrees 69 = .ok (.imul, 1) := by decide +kernel
theorem dX6_findThrees_70 : decode cX6_findThrees 70 = .ok (.iload_n 3, 1) := by decide +kernel
theorem dX6_findThrees_71 : decode cX6_findThrees 71 = .ok (.iadd, 1) := by decide +kernel
theorem dX6_findThrees_72 : decode cX6_findThrees 72 = .ok (.baload, 1) := by decide +kernel
theorem dX6_findThrees_73 : decode cX6_findThrees 73 = .ok (.ifCond .eq 125, 3) := by decide +kernel
theorem dX6_findThrees_76 : decode cX6_findThrees 76 = .ok (.aload_n 0, 1) := by decide +kernel
theorem dX6_findThrees_77 : decode cX6_findThrees 77 = .ok (.getfield 48, 3) := by decide +kernel
theorem dX6_findThrees_80 : decode cX6_findThrees 80 = .ok (.iconst 5, 1) := by decide +kernel
theorem dX6_findThrees_81 : decode cX6_findThrees 81 = .ok (.iload_n 1, 1) := by decide +kernel
theorem dX6_findThrees_82 : decode cX6_findThrees 82 = .ok (.imul, 1) := by decide +kernel
theorem dX6_findThrees_83 : decode cX6_findThrees 83 = .ok (.iload_n 2, 1) := by decide +kernel
theorem dX6_findThrees_84 : decode cX6_findThrees 84 = .ok (.iadd, 1) := by decide +kernel
theorem dX6_findThrees_85 : decode cX6_findThrees 85 = .ok (.iaload, 1) := by decide +kernel
theorem dX6_findThrees_86 : decode cX6_findThrees 86 = .ok (.aload_n 0, 1) := by decide +kernel
theorem dX6_findThrees_87 : decode cX6_findThrees 87 = .ok (.getfield 48, 3) := by decide +kernel
theorem dX6_findThrees_90 : decode cX6_findThrees 90 = .ok (.iconst 5, 1) := by decide +kernel
theorem dX6_findThrees_91 : decode cX6_findThrees 91 = .ok (.iload_n 1, 1) := by decide +kernel
theorem dX6_findThrees_92 : decode cX6_findThrees 92 = .ok (.imul, 1) := by decide +kernel
theorem dX6_findThrees_93 : decode cX6_findThrees 93 = .ok (.iload_n 3, 1) := by decide +kernel
theorem dX6_findThrees_94 : decode cX6_findThrees 94 = .ok (.iadd, 1) := by decide +kernel
theorem dX6_findThrees_95 : decode cX6_findThrees 95 = .ok (.iaload, 1) := by decide +kernel
theorem dX6_findThrees_96 : decode cX6_findThrees 96 = .ok (.iadd, 1) := by decide +kernel
theorem dX6_findThrees_97 : decode cX6_findThrees 97 = .ok (.aload_n 0, 1) := by decide +kernel
theorem dX6_findThrees_98 : decode cX6_findThrees 98 = .ok (.getfield 48, 3) := by decide +kernel
theorem dX6_findThrees_101 : decode cX6_findThrees 101 = .ok (.iconst 5, 1) := by decide +kernel
theorem dX6_findThrees_102 : decode cX6_findThrees 102 = .ok (.iload_n 2, 1) := by decide +kernel
theorem dX6_findThrees_103 : decode cX6_findThrees 103 = .ok (.imul, 1) := by decide +kernel
theorem dX6_findThrees_104 : decode cX6_findThrees 104 = .ok (.iload_n 3, 1) := by decide +kernel
theorem dX6_findThrees_105 : decode cX6_findThrees 105 = .ok (.iadd, 1) := by decide +kernel
theorem dX6_findThrees_106 : decode cX6_findThrees 106 = .ok (.iaload, 1) := by decide +kernel
theorem dX6_findThrees_107 : decode cX6_findThrees 107 = .ok (.isub, 1) := by decide +kernel
theorem dX6_findThrees_108 : decode cX6_findThrees 108 = .ok (.istore 4, 2) := by decide +kernel
theorem dX6_findThrees_110 : decode cX6_findThrees 110 = .ok (.aload_n 0, 1) := by decide +kernel
theorem dX6_findThrees_111 : decode cX6_findThrees 111 = .ok (.aload_n 0, 1) := by decide +kernel
theorem dX6_findThrees_112 : decode cX6_findThrees 112 = .ok (.getfield 164, 3) := by decide +kernel
theorem dX6_findThrees_115 : decode cX6_findThrees 115 = .ok (.ifCond .ne 8, 3) := by decide +kernel
theorem dX6_findThrees_118 : decode cX6_findThrees 118 = .ok (.iload 4, 2) := by decide +kernel
theorem dX6_findThrees_120 : decode cX6_findThrees 120 = .ok (.goto 7, 3) := by decide +kernel
theorem dX6_findThrees_123 : decode cX6_findThrees 123 = .ok (.aload_n 0, 1) := by decide +kernel
theorem dX6_findThrees_124 : decode cX6_findThrees 124 = .ok (.getfield 167, 3) := by decide +kernel
theorem dX6_findThrees_127 : decode cX6_findThrees 127 = .ok (.putfield 167, 3) := by decide +kernel
theorem dX6_findThrees_130 : decode cX6_findThrees 130 = .ok (.aload_n 0, 1) := by decide +kernel
theorem dX6_findThrees_131 : decode cX6_findThrees 131 = .ok (.aload_n 0, 1) := by decide +kernel
theorem dX6_findThrees_132 : decode cX6_findThrees 132 = .ok (.getfield 164, 3) := by decide +kernel
theorem dX6_findThrees_135 : decode cX6_findThrees 135 = .ok (.ifCond .eq 12, 3) := by decide +kernel
theorem dX6_findThrees_138 : decode cX6_findThrees 138 = .ok (.iload 4, 2) := by decide +kernel
theorem dX6_findThrees_140 : decode cX6_findThrees 140 = .ok (.aload_n 0, 1) := by decide +kernel
theorem dX6_findThrees_141 : decode cX6_findThrees 141 = .ok (.getfield 170, 3) := by decide +kernel
theorem dX6_findThrees_144 : decode cX6_findThrees 144 = .ok (.if_icmp .ge 8, 3) := by decide +kernel
theorem dX6_findThrees_147 : decode cX6_findThrees 147 = .ok (.iload 4, 2) := by decide +kernel
theorem dX6_findThrees_149 : decode cX6_findThrees 149 = .ok (.goto 7, 3) := by decide +kernel
theorem dX6_findThrees_152 : decode cX6_findThrees 152 = .ok (.aload_n 0, 1) := by decide +kernel
theorem dX6_findThrees_153 : decode cX6_findThrees 153 = .ok (.getfield 170, 3) := by decide +kernel
theorem dX6_findThrees_156 : decode cX6_findThrees 156 = .ok (.putfield 170, 3) := by decide +kernel
theorem dX6_findThrees_159 : decode cX6_findThrees 159 = .ok (.aload_n 0, 1) := by decide +kernel
theorem dX6_findThrees_160 : decode cX6_findThrees 160 = .ok (.aload_n 0, 1) := by decide +kernel
theorem dX6_findThrees_161 : decode cX6_findThrees 161 = .ok (.getfield 164, 3) := by decide +kernel
theorem dX6_findThrees_164 : decode cX6_findThrees 164 = .ok (.ifCond .eq 12, 3) := by decide +kernel
theorem dX6_findThrees_167 : decode cX6_findThrees 167 = .ok (.iload 4, 2) := by decide +kernel
theorem dX6_findThrees_169 : decode cX6_findThrees 169 = .ok (.aload_n 0, 1) := by decide +kernel
theorem dX6_findThrees_170 : decode cX6_findThrees 170 = .ok (.getfield 173, 3) := by decide +kernel
theorem dX6_findThrees_173 : decode cX6_findThrees 173 = .ok (.if_icmp .le 8, 3) := by decide +kernel
theorem dX6_findThrees_176 : decode cX6_findThrees 176 = .ok (.iload 4, 2) := by decide +kernel
theorem dX6_findThrees_178 : decode cX6_findThrees 178 = .ok (.goto 7, 3) := by decide +kernel
theorem dX6_findThrees_181 : decode cX6_findThrees 181 = .ok (.aload_n 0, 1) := by decide +kernel
theorem dX6_findThrees_182 : decode cX6_findThrees 182 = .ok (.getfield 173, 3) := by decide +kernel
theorem dX6_findThrees_185 : decode cX6_findThrees 185 = .ok (.putfield 173, 3) := by decide +kernel
theorem dX6_findThrees_188 : decode cX6_findThrees 188 = .ok (.aload_n 0, 1) := by decide +kernel
theorem dX6_findThrees_189 : decode cX6_findThrees 189 = .ok (.dup, 1) := by decide +kernel
theorem dX6_findThrees_190 : decode cX6_findThrees 190 = .ok (.getfield 164, 3) := by decide +kernel
theorem dX6_findThrees_193 : decode cX6_findThrees 193 = .ok (.iconst 1, 1) := by decide +kernel
theorem dX6_findThrees_194 : decode cX6_findThrees 194 = .ok (.iadd, 1) := by decide +kernel
theorem dX6_findThrees_195 : decode cX6_findThrees 195 = .ok (.putfield 164, 3) := by decide +kernel
theorem dX6_findThrees_198 : decode cX6_findThrees 198 = .ok (.iinc 3 1, 3) := by decide +kernel
theorem dX6_findThrees_201 : decode cX6_findThrees 201 = .ok (.goto (-182), 3) := by decide +kernel
theorem dX6_findThrees_204 : decode cX6_findThrees 204 = .ok (.iinc 2 1, 3) := by decide +kernel
theorem dX6_findThrees_207 : decode cX6_findThrees 207 = .ok (.goto (-200), 3) := by decide +kernel
theorem dX6_findThrees_210 : decode cX6_findThrees 210 = .ok (.return_, 1) := by decide +kernel
set_option maxRecDepth 20000 in
theorem ggX6_gain_X6_in : GoodIn wsX6_gain wsX6_in := goodIn_r _ [9] (by decide +kernel) (by decide +kernel)
set_option maxRecDepth 20000 in
theorem gX6_gain_X6_in : GoodIn wsX6_gain (va_wsS RX6 74 yX6_in wsX6_in) := goodIn_app (goodIn_of _ (by decide +kernel)) ggX6_gain_X6_in
set_option maxRecDepth 20000 in
theorem ggX6_gain_X6_findThrees : GoodIn wsX6_gain wsX6_findThrees := goodIn_r _ [13, 3, 1, 14, 15, 5, 16, 17, 18, 19, 20, 21, 22, 23, 24, 25, 26, 27, 28, 29, 30, 31, 32, 33, 34, 35, 36, 37, 38, 39, 40, 41, 42] (by decide +kernel) (by decide +kernel)
set_option maxRecDepth 20000 in
theorem gX6_gain_X6_findThrees : GoodIn wsX6_gain (wsV RX6 176 RX6 yX6_findThrees wsX6_findThrees) := goodIn_app (goodIn_of _ (by decide +kernel)) ggX6_gain_X6_findThrees
theorem dX6_gain_0 : decode cX6_gain 0 = .ok (.iload_n 1, 1) := by decide +kernel
theorem dX6_gain_1 : decode cX6_gain 1 = .ok (.i2l, 1) := by decide +kernel
theorem dX6_gain_2 : decode cX6_gain 2 = .ok (.lconst 0, 1) := by decide +kernel
theorem dX6_gain_3 : decode cX6_gain 3 = .ok (.aload_n 0, 1) := by decide +kernel
theorem dX6_gain_4 : decode cX6_gain 4 = .ok (.getfield 65, 3) := by decide +kernel
theorem dX6_gain_7 : decode cX6_gain 7 = .ok (.iconst 1, 1) := by decide +kernel
theorem dX6_gain_8 : decode cX6_gain 8 = .ok (.isub, 1) := by decide +kernel
theorem dX6_gain_9 : decode cX6_gain 9 = .ok (.i2l, 1) := by decide +kernel
theorem dX6_gain_10 : decode cX6_gain 10 = .ok (.invokestatic 74, 3) := by decide +kernel
theorem dX6_gain_13 : decode cX6_gain 13 = .ok (.ifCond .ne 6, 3) := by decide +kernel
theorem dX6_gain_16 : decode cX6_gain 16 = .ok (.ldc 94, 2) := by decide +kernel
theorem dX6_gain_18 : decode cX6_gain 18 = .ok (.ireturn, 1) := by decide +kernel
theorem dX6_gain_19 : decode cX6_gain 19 = .ok (.aload_n 0, 1) := by decide +kernel
theorem dX6_gain_20 : decode cX6_gain 20 = .ok (.iload_n 1, 1) := by decide +kernel
theorem dX6_gain_21 : decode cX6_gain 21 = .ok (.invokevirtual 176, 3) := by decide +kernel
theorem dX6_gain_24 : decode cX6_gain 24 = .ok (.aload_n 0, 1) := by decide +kernel
theorem dX6_gain_25 : decode cX6_gain 25 = .ok (.getfield 164, 3) := by decide +kernel
theorem dX6_gain_28 : decode cX6_gain 28 = .ok (.ifCond .ne 8, 3) := by decide +kernel
theorem dX6_gain_31 : decode cX6_gain 31 = .ok (.ldc 179, 2) := by decide +kernel
theorem dX6_gain_33 : decode cX6_gain 33 = .ok (.goto 7, 3) := by decide +kernel
theorem dX6_gain_36 : decode cX6_gain 36 = .ok (.aload_n 0, 1) := by decide +kernel
theorem dX6_gain_37 : decode cX6_gain 37 = .ok (.getfield 167, 3) := by decide +kernel
theorem dX6_gain_40 : decode cX6_gain 40 = .ok (.ireturn, 1) := by decide +kernel
set_option maxRecDepth 20000 in
theorem ggX6_loose_X6_findThrees : GoodIn wsX6_loose wsX6_findThrees := goodIn_r _ [9, 2, 1, 10, 11, 12, 4, 3, 13, 14, 15, 16, 17, 18, 19, 20, 21, 22, 23, 24, 25, 26, 27, 28, 29, 30, 31, 32, 33, 34, 35, 36, 37] (by decide +kernel) (by decide +kernel)
set_option maxRecDepth 20000 in
theorem gX6_loose_X6_findThrees : GoodIn wsX6_loose (wsV RX6 176 RX6 yX6_findThrees wsX6_findThrees) := goodIn_app (goodIn_of _ (by decide +kernel)) ggX6_loose_X6_findThrees
theorem dX6_loose_0 : decode cX6_loose 0 = .ok (.iconst (-1), 1) := by decide +kernel
theorem dX6_loose_1 : decode cX6_loose 1 = .ok (.istore_n 1, 1) := by decide +kernel
theorem dX6_loose_2 : decode cX6_loose 2 = .ok (.iconst 0, 1) := by decide +kernel
theorem dX6_loose_3 : decode cX6_loose 3 = .ok (.istore_n 2, 1) := by decide +kernel
theorem dX6_loose_4 : decode cX6_loose 4 = .ok (.iload_n 2, 1) := by decide +kernel
theorem dX6_loose_5 : decode cX6_loose 5 = .ok (.aload_n 0, 1) := by decide +kernel
theorem dX6_loose_6 : decode cX6_loose 6 = .ok (.getfield 65, 3) := by decide +kernel
theorem dX6_loose_9 : decode cX6_loose 9 = .ok (.if_icmp .ge 44, 3) := by decide +kernel
theorem dX6_loose_12 : decode cX6_loose 12 = .ok (.aload_n 0, 1) := by decide +kernel
theorem dX6_loose_13 : decode cX6_loose 13 = .ok (.iload_n 2, 1) := by decide +kernel
theorem dX6_loose_14 : decode cX6_loose 14 = .ok (.invokevirtual 176, 3) := by decide +kernel
theorem dX6_loose_17 : decode cX6_loose 17 = .ok (.aload_n 0, 1) := by decide +kernel
theorem dX6_loose_18 : decode cX6_loose 18 = .ok (.getfield 164, 3) := by decide +kernel
theorem dX6_loose_21 : decode cX6_loose 21 = .ok (.ifCond .le 26, 3) := by decide +kernel
theorem dX6_loose_24 : decode cX6_loose 24 = .ok (.aload_n 0, 1) := by decide +kernel
theorem dX6_loose_25 : decode cX6_loose 25 = .ok (.getfield 173, 3) := by decide +kernel
theorem dX6_loose_28 : decode cX6_loose 28 = .ok (.aload_n 0, 1) := by decide +kernel
theorem dX6_loose_29 : decode cX6_loose 29 = .ok (.getfield 170, 3) := by decide +kernel
theorem dX6_loose_32 : decode cX6_loose 32 = .ok (.isub, 1) := by decide +kernel
theorem dX6_loose_33 : decode cX6_loose 33 = .ok (.iload_n 1, 1) := by decide +kernel
theorem dX6_loose_34 : decode cX6_loose 34 = .ok (.if_icmp .le 13, 3) := by decide +kernel
theorem dX6_loose_37 : decode cX6_loose 37 = .ok (.aload_n 0, 1) := by decide +kernel
theorem dX6_loose_38 : decode cX6_loose 38 = .ok (.getfield 173, 3) := by decide +kernel
theorem dX6_loose_41 : decode cX6_loose 41 = .ok (.aload_n 0, 1) := by decide +kernel
theorem dX6_loose_42 : decode cX6_loose 42 = .ok (.getfield 170, 3) := by decide +kernel
theorem dX6_loose_45 : decode cX6_loose 45 = .ok (.isub, 1) := by decide +kernel
theorem dX6_loose_46 : decode cX6_loose 46 = .ok (.istore_n 1, 1) := by decide +kernel
theorem dX6_loose_47 : decode cX6_loose 47 = .ok (.iinc 2 1, 3) := by decide +kernel
theorem dX6_loose_50 : decode cX6_loose 50 = .ok (.goto (-46), 3) := by decide +kernel
theorem dX6_loose_53 : decode cX6_loose 53 = .ok (.iload_n 1, 1) := by decide +kernel
theorem dX6_loose_54 : decode cX6_loose 54 = .ok (.ireturn, 1) := by decide +kernel
set_option maxRecDepth 20000 in
theorem ggX6_measure_X6_isPlace : GoodIn wsX6_measure wsX6_isPlace := goodIn_r _ [9, 10, 11, 12, 8, 13, 14, 15, 16, 17, 18, 19, 20, 21, 22, 23, 24, 25, 26, 27, 28, 29, 30, 31, 32, 33, 34, 35, 36, 37, 38] (by decide +kernel) (by decide +kernel)
set_option maxRecDepth 20000 in
theorem gX6_measure_X6_isPlace : GoodIn wsX6_measure (wsV RX6 78 RX6 yX6_isPlace wsX6_isPlace) := goodIn_app (goodIn_of _ (by decide +kernel)) ggX6_measure_X6_isPlace
set_option maxRecDepth 20000 in
theorem ggX6_measure_X6_in : GoodIn wsX6_measure wsX6_in := goodIn_r _ [13] (by decide +kernel) (by decide +kernel)
set_option maxRecDepth 20000 in
theorem gX6_measure_X6_in : GoodIn wsX6_measure (va_wsS RX6 74 yX6_in wsX6_in) := goodIn_app (goodIn_of _ (by decide +kernel)) ggX6_measure_X6_in
theorem dX6_measure_0 : decode cX6_measure 0 = .ok (.aload_n 0, 1) := by decide +kernel
theorem dX6_measure_1 : decode cX6_measure 1 = .ok (.iload_n 1, 1) := by decide +kernel
theorem dX6_measure_2 : decode cX6_measure 2 = .ok (.invokevirtual 78, 3) := by decide +kernel
theorem dX6_measure_5 : decode cX6_measure 5 = .ok (.ifCond .ne 6, 3) := by decide +kernel
theorem dX6_measure_8 : decode cX6_measure 8 = .ok (.bipush (-101), 2) := by decide +kernel
theorem dX6_measure_10 : decode cX6_measure 10 = .ok (.ireturn, 1) := by decide +kernel
theorem dX6_measure_11 : decode cX6_measure 11 = .ok (.iload_n 2, 1) := by decide +kernel
theorem dX6_measure_12 : decode cX6_measure 12 = .ok (.i2l, 1) := by decide +kernel
theorem dX6_measure_13 : decode cX6_measure 13 = .ok (.ldc2_w 99, 3) := by decide +kernel
theorem dX6_measure_16 : decode cX6_measure 16 = .ok (.ldc2_w 101, 3) := by decide +kernel
theorem dX6_measure_19 : decode cX6_measure 19 = .ok (.invokestatic 74, 3) := by decide +kernel
theorem dX6_measure_22 : decode cX6_measure 22 = .ok (.ifCond .ne 6, 3) := by decide +kernel
theorem dX6_measure_25 : decode cX6_measure 25 = .ok (.bipush (-102), 2) := by decide +kernel
theorem dX6_measure_27 : decode cX6_measure 27 = .ok (.ireturn, 1) := by decide +kernel
theorem dX6_measure_28 : decode cX6_measure 28 = .ok (.aload_n 0, 1) := by decide +kernel
theorem dX6_measure_29 : decode cX6_measure 29 = .ok (.getfield 23, 3) := by decide +kernel
theorem dX6_measure_32 : decode cX6_measure 32 = .ok (.iload_n 1, 1) := by decide +kernel
theorem dX6_measure_33 : decode cX6_measure 33 = .ok (.baload, 1) := by decide +kernel
theorem dX6_measure_34 : decode cX6_measure 34 = .ok (.ifCond .eq 7, 3) := by decide +kernel
theorem dX6_measure_37 : decode cX6_measure 37 = .ok (.iconst 1, 1) := by decide +kernel
theorem dX6_measure_38 : decode cX6_measure 38 = .ok (.goto 4, 3) := by decide +kernel
theorem dX6_measure_41 : decode cX6_measure 41 = .ok (.iconst 0, 1) := by decide +kernel
theorem dX6_measure_42 : decode cX6_measure 42 = .ok (.istore 4, 2) := by decide +kernel
theorem dX6_measure_44 : decode cX6_measure 44 = .ok (.aload_n 0, 1) := by decide +kernel
theorem dX6_measure_45 : decode cX6_measure 45 = .ok (.getfield 23, 3) := by decide +kernel
theorem dX6_measure_48 : decode cX6_measure 48 = .ok (.iload_n 1, 1) := by decide +kernel
theorem dX6_measure_49 : decode cX6_measure 49 = .ok (.iload_n 3, 1) := by decide +kernel
theorem dX6_measure_50 : decode cX6_measure 50 = .ok (.bastore, 1) := by decide +kernel
theorem dX6_measure_51 : decode cX6_measure 51 = .ok (.aload_n 0, 1) := by decide +kernel
theorem dX6_measure_52 : decode cX6_measure 52 = .ok (.getfield 26, 3) := by decide +kernel
theorem dX6_measure_55 : decode cX6_measure 55 = .ok (.iload_n 1, 1) := by decide +kernel
theorem dX6_measure_56 : decode cX6_measure 56 = .ok (.iload_n 3, 1) := by decide +kernel
theorem dX6_measure_57 : decode cX6_measure 57 = .ok (.ifCond .eq 7, 3) := by decide +kernel
theorem dX6_measure_60 : decode cX6_measure 60 = .ok (.iload_n 2, 1) := by decide +kernel
theorem dX6_measure_61 : decode cX6_measure 61 = .ok (.goto 4, 3) := by decide +kernel
theorem dX6_measure_64 : decode cX6_measure 64 = .ok (.iconst 0, 1) := by decide +kernel
theorem dX6_measure_65 : decode cX6_measure 65 = .ok (.iastore, 1) := by decide +kernel
theorem dX6_measure_66 : decode cX6_measure 66 = .ok (.iload 4, 2) := by decide +kernel
theorem dX6_measure_68 : decode cX6_measure 68 = .ok (.ireturn, 1) := by decide +kernel
set_option maxRecDepth 20000 in
theorem ggX6_offBy_X6_farOf : GoodIn wsX6_offBy wsX6_farOf := goodIn_r _ [8, 1, 9, 10, 11, 7, 12, 13, 14, 15, 16, 17, 18, 19, 20, 21, 22, 23, 24, 25, 26, 27, 28, 29, 30, 31, 32, 33, 34, 35, 36, 37] (by decide +kernel) (by decide +kernel)
set_option maxRecDepth 20000 in
theorem gX6_offBy_X6_farOf : GoodIn wsX6_offBy (wsV RX6 90 RX6 yX6_farOf wsX6_farOf) := goodIn_app (goodIn_of _ (by decide +kernel)) ggX6_offBy_X6_farOf
set_option maxRecDepth 20000 in
theorem ggX6_offBy_X6_sign : GoodIn wsX6_offBy wsX6_sign := goodIn_r _ [12] (by decide +kernel) (by decide +kernel)
set_option maxRecDepth 20000 in
theorem gX6_offBy_X6_sign : GoodIn wsX6_offBy (va_wsS RX6 86 yX6_sign wsX6_sign) := goodIn_app (goodIn_of _ (by decide +kernel)) ggX6_offBy_X6_sign
theorem dX6_offBy_0 : decode cX6_offBy 0 = .ok (.iconst 0, 1) := by decide +kernel
theorem dX6_offBy_1 : decode cX6_offBy 1 = .ok (.istore_n 2, 1) := by decide +kernel
theorem dX6_offBy_2 : decode cX6_offBy 2 = .ok (.iconst 1, 1) := by decide +kernel
theorem dX6_offBy_3 : decode cX6_offBy 3 = .ok (.istore_n 3, 1) := by decide +kernel
theorem dX6_offBy_4 : decode cX6_offBy 4 = .ok (.iconst 0, 1) := by decide +kernel
theorem dX6_offBy_5 : decode cX6_offBy 5 = .ok (.istore 4, 2) := by decide +kernel
theorem dX6_offBy_7 : decode cX6_offBy 7 = .ok (.iload 4, 2) := by decide +kernel
theorem dX6_offBy_9 : decode cX6_offBy 9 = .ok (.aload_n 0, 1) := by decide +kernel
theorem dX6_offBy_10 : decode cX6_offBy 10 = .ok (.getfield 68, 3) := by decide +kernel
theorem dX6_offBy_13 : decode cX6_offBy 13 = .ok (.if_icmp .ge 59, 3) := by decide +kernel
theorem dX6_offBy_16 : decode cX6_offBy 16 = .ok (.aload_n 0, 1) := by decide +kernel
theorem dX6_offBy_17 : decode cX6_offBy 17 = .ok (.getfield 23, 3) := by decide +kernel
theorem dX6_offBy_20 : decode cX6_offBy 20 = .ok (.iload 4, 2) := by decide +kernel
theorem dX6_offBy_22 : decode cX6_offBy 22 = .ok (.baload, 1) := by decide +kernel
theorem dX6_offBy_23 : decode cX6_offBy 23 = .ok (.ifCond .eq 43, 3) := by decide +kernel
theorem dX6_offBy_26 : decode cX6_offBy 26 = .ok (.aload_n 0, 1) := by decide +kernel
theorem dX6_offBy_27 : decode cX6_offBy 27 = .ok (.getfield 26, 3) := by decide +kernel
theorem dX6_offBy_30 : decode cX6_offBy 30 = .ok (.iload 4, 2) := by decide +kernel
theorem dX6_offBy_32 : decode cX6_offBy 32 = .ok (.iaload, 1) := by decide +kernel
theorem dX6_offBy_33 : decode cX6_offBy 33 = .ok (.aload_n 0, 1) := by decide +kernel
theorem dX6_offBy_34 : decode cX6_offBy 34 = .ok (.iload 4, 2) := by decide +kernel
theorem dX6_offBy_36 : decode cX6_offBy 36 = .ok (.invokevirtual 90, 3) := by decide +kernel
theorem dX6_offBy_39 : decode cX6_offBy 39 = .ok (.isub, 1) := by decide +kernel
theorem dX6_offBy_40 : decode cX6_offBy 40 = .ok (.iload_n 1, 1) := by decide +kernel
theorem dX6_offBy_41 : decode cX6_offBy 41 = .ok (.iload 4, 2) := by decide +kernel
theorem dX6_offBy_43 : decode cX6_offBy 43 = .ok (.invokestatic 86, 3) := by decide +kernel
theorem dX6_offBy_46 : decode cX6_offBy 46 = .ok (.imul, 1) := by decide +kernel
theorem dX6_offBy_47 : decode cX6_offBy 47 = .ok (.istore 5, 2) := by decide +kernel
theorem dX6_offBy_49 : decode cX6_offBy 49 = .ok (.iload_n 3, 1) := by decide +kernel
theorem dX6_offBy_50 : decode cX6_offBy 50 = .ok (.ifCond .eq 8, 3) := by decide +kernel
theorem dX6_offBy_53 : decode cX6_offBy 53 = .ok (.iload 5, 2) := by decide +kernel
theorem dX6_offBy_55 : decode cX6_offBy 55 = .ok (.istore_n 2, 1) := by decide +kernel
theorem dX6_offBy_56 : decode cX6_offBy 56 = .ok (.iconst 0, 1) := by decide +kernel
theorem dX6_offBy_57 : decode cX6_offBy 57 = .ok (.istore_n 3, 1) := by decide +kernel
theorem dX6_offBy_58 : decode cX6_offBy 58 = .ok (.iload 5, 2) := by decide +kernel
theorem dX6_offBy_60 : decode cX6_offBy 60 = .ok (.iload_n 2, 1) := by decide +kernel
theorem dX6_offBy_61 : decode cX6_offBy 61 = .ok (.if_icmp .eq 5, 3) := by decide +kernel
theorem dX6_offBy_64 : decode cX6_offBy 64 = .ok (.iconst 0, 1) := by decide +kernel
theorem dX6_offBy_65 : decode cX6_offBy 65 = .ok (.ireturn, 1) := by decide +kernel
theorem dX6_offBy_66 : decode cX6_offBy 66 = .ok (.iinc 4 1, 3) := by decide +kernel
theorem dX6_offBy_69 : decode cX6_offBy 69 = .ok (.goto (-62), 3) := by decide +kernel
theorem dX6_offBy_72 : decode cX6_offBy 72 = .ok (.iload_n 2, 1) := by decide +kernel
theorem dX6_offBy_73 : decode cX6_offBy 73 = .ok (.ireturn, 1) := by decide +kernel
set_option maxRecDepth 20000 in
theorem ggX6_isOff_X6_farOf : GoodIn wsX6_isOff wsX6_farOf := goodIn_r _ [8, 1, 9, 10, 11, 7, 12, 13, 14, 15, 16, 17, 18, 19, 20, 21, 22, 23, 24, 25, 26, 27, 28, 29, 30, 31, 32, 33, 34, 35, 36, 37] (by decide +kernel) (by decide +kernel)
set_option maxRecDepth 20000 in
theorem gX6_isOff_X6_farOf : GoodIn wsX6_isOff (wsV RX6 90 RX6 yX6_farOf wsX6_farOf) := goodIn_app (goodIn_of _ (by decide +kernel)) ggX6_isOff_X6_farOf
theorem dX6_isOff_0 : decode cX6_isOff 0 = .ok (.iconst 0, 1) := by decide +kernel
theorem dX6_isOff_1 : decode cX6_isOff 1 = .ok (.istore_n 1, 1) := by decide +kernel
theorem dX6_isOff_2 : decode cX6_isOff 2 = .ok (.iconst 0, 1) := by decide +kernel
theorem dX6_isOff_3 : decode cX6_isOff 3 = .ok (.istore_n 2, 1) := by decide +kernel
theorem dX6_isOff_4 : decode cX6_isOff 4 = .ok (.iload_n 2, 1) := by decide +kernel
theorem dX6_isOff_5 : decode cX6_isOff 5 = .ok (.aload_n 0, 1) := by decide +kernel
theorem dX6_isOff_6 : decode cX6_isOff 6 = .ok (.getfield 68, 3) := by decide +kernel
theorem dX6_isOff_9 : decode cX6_isOff 9 = .ok (.if_icmp .ge 42, 3) := by decide +kernel
theorem dX6_isOff_12 : decode cX6_isOff 12 = .ok (.iload_n 1, 1) := by decide +kernel
theorem dX6_isOff_13 : decode cX6_isOff 13 = .ok (.ifCond .ne 26, 3) := by decide +kernel
theorem dX6_isOff_16 : decode cX6_isOff 16 = .ok (.aload_n 0, 1) := by decide +kernel
theorem dX6_isOff_17 : decode cX6_isOff 17 = .ok (.getfield 23, 3) := by decide +kernel
theorem dX6_isOff_20 : decode cX6_isOff 20 = .ok (.iload_n 2, 1) := by decide +kernel
theorem dX6_isOff_21 : decode cX6_isOff 21 = .ok (.baload, 1) := by decide +kernel
theorem dX6_isOff_22 : decode cX6_isOff 22 = .ok (.ifCond .eq 21, 3) := by decide +kernel
theorem dX6_isOff_25 : decode cX6_isOff 25 = .ok (.aload_n 0, 1) := by decide +kernel
theorem dX6_isOff_26 : decode cX6_isOff 26 = .ok (.getfield 26, 3) := by decide +kernel
theorem dX6_isOff_29 : decode cX6_isOff 29 = .ok (.iload_n 2, 1) := by decide +kernel
theorem dX6_isOff_30 : decode cX6_isOff 30 = .ok (.iaload, 1) := by decide +kernel
theorem dX6_isOff_31 : decode cX6_isOff 31 = .ok (.aload_n 0, 1) := by decide +kernel
theorem dX6_isOff_32 : decode cX6_isOff 32 = .ok (.iload_n 2, 1) := by decide +kernel
theorem dX6_isOff_33 : decode cX6_isOff 33 = .ok (.invokevirtual 90, 3) := by decide +kernel
theorem dX6_isOff_36 : decode cX6_isOff 36 = .ok (.if_icmp .eq 7, 3) := by decide +kernel
theorem dX6_isOff_39 : decode cX6_isOff 39 = .ok (.iconst 1, 1) := by decide +kernel
theorem dX6_isOff_40 : decode cX6_isOff 40 = .ok (.goto 4, 3) := by decide +kernel
theorem dX6_isOff_43 : decode cX6_isOff 43 = .ok (.iconst 0, 1) := by decide +kernel
theorem dX6_isOff_44 : decode cX6_isOff 44 = .ok (.istore_n 1, 1) := by decide +kernel
theorem dX6_isOff_45 : decode cX6_isOff 45 = .ok (.iinc 2 1, 3) := by decide +kernel
theorem dX6_isOff_48 : decode cX6_isOff 48 = .ok (.goto (-44), 3) := by decide +kernel
theorem dX6_isOff_51 : decode cX6_isOff 51 = .ok (.iload_n 1, 1) := by decide +kernel
theorem dX6_isOff_52 : decode cX6_isOff 52 = .ok (.ireturn, 1) := by decide +kernel
set_option maxRecDepth 20000 in
theorem ggX6_faults_X6_isOff : GoodIn wsX6_faults wsX6_isOff := goodIn_r _ [6, 1, 7, 8, 9, 10, 11, 5, 12, 13, 14, 15, 16, 21, 22, 23, 24, 25, 26, 27, 28, 29, 30, 31, 32, 33, 34, 35, 36, 37, 38, 39, 40, 41, 42, 43, 44, 45] (by decide +kernel) (by decide +kernel)
set_option maxRecDepth 20000 in
theorem gX6_faults_X6_isOff : GoodIn wsX6_faults (wsV RX6 180 RX6 yX6_isOff wsX6_isOff) := goodIn_app (goodIn_of _ (by decide +kernel)) ggX6_faults_X6_isOff
set_option maxRecDepth 20000 in
theorem ggX6_faults_X6_offBy : GoodIn wsX6_faults wsX6_offBy := goodIn_r _ [20, 1, 7, 8, 9, 10, 11, 5, 12, 13, 14, 15, 16, 21, 22, 23, 24, 25, 26, 27, 28, 29, 30, 31, 32, 33, 34, 35, 36, 37, 38, 39, 40, 41, 42, 43, 44, 45] (by decide +kernel) (by decide +kernel)
set_option maxRecDepth 20000 in
theorem gX6_faults_X6_offBy : GoodIn wsX6_faults (wsV RX6 184 RX6 yX6_offBy wsX6_offBy) := goodIn_app (goodIn_of _ (by decide +kernel)) ggX6_faults_X6_offBy
theorem dX6_faults_0 : decode cX6_faults 0 = .ok (.aload_n 0, 1) := by decide +kernel
theorem dX6_faults_1 : decode cX6_faults 1 = .ok (.invokevirtual 180, 3) := by decide +kernel
theorem dX6_faults_4 : decode cX6_faults 4 = .ok (.ifCond .ne 5, 3) := by decide +kernel
theorem dX6_faults_7 : decode cX6_faults 7 = .ok (.iconst (-1), 1) := by decide +kernel
theorem dX6_faults_8 : decode cX6_faults 8 = .ok (.ireturn, 1) := by decide +kernel
theorem dX6_faults_9 : decode cX6_faults 9 = .ok (.iconst 0, 1) := by decide +kernel
theorem dX6_faults_10 : decode cX6_faults 10 = .ok (.istore_n 1, 1) := by decide +kernel
theorem dX6_faults_11 : decode cX6_faults 11 = .ok (.iconst 0, 1) := by decide +kernel
theorem dX6_faults_12 : decode cX6_faults 12 = .ok (.istore_n 2, 1) := by decide +kernel
theorem dX6_faults_13 : decode cX6_faults 13 = .ok (.iload_n 2, 1) := by decide +kernel
theorem dX6_faults_14 : decode cX6_faults 14 = .ok (.aload_n 0, 1) := by decide +kernel
theorem dX6_faults_15 : decode cX6_faults 15 = .ok (.getfield 68, 3) := by decide +kernel
theorem dX6_faults_18 : decode cX6_faults 18 = .ok (.if_icmp .ge 25, 3) := by decide +kernel
theorem dX6_faults_21 : decode cX6_faults 21 = .ok (.iload_n 1, 1) := by decide +kernel
theorem dX6_faults_22 : decode cX6_faults 22 = .ok (.aload_n 0, 1) := by decide +kernel
theorem dX6_faults_23 : decode cX6_faults 23 = .ok (.iload_n 2, 1) := by decide +kernel
theorem dX6_faults_24 : decode cX6_faults 24 = .ok (.invokevirtual 184, 3) := by decide +kernel
theorem dX6_faults_27 : decode cX6_faults 27 = .ok (.ifCond .ne 7, 3) := by decide +kernel
theorem dX6_faults_30 : decode cX6_faults 30 = .ok (.iconst 0, 1) := by decide +kernel
theorem dX6_faults_31 : decode cX6_faults 31 = .ok (.goto 4, 3) := by decide +kernel
theorem dX6_faults_34 : decode cX6_faults 34 = .ok (.iconst 1, 1) := by decide +kernel
theorem dX6_faults_35 : decode cX6_faults 35 = .ok (.iadd, 1) := by decide +kernel
theorem dX6_faults_36 : decode cX6_faults 36 = .ok (.istore_n 1, 1) := by decide +kernel
theorem dX6_faults_37 : decode cX6_faults 37 = .ok (.iinc 2 1, 3) := by decide +kernel
theorem dX6_faults_40 : decode cX6_faults 40 = .ok (.goto (-27), 3) := by decide +kernel
theorem dX6_faults_43 : decode cX6_faults 43 = .ok (.iload_n 1, 1) := by decide +kernel
theorem dX6_faults_44 : decode cX6_faults 44 = .ok (.ireturn, 1) := by decide +kernel
set_option maxRecDepth 20000 in
theorem ggX6_faultAt_X6_offBy : GoodIn wsX6_faultAt wsX6_offBy := goodIn_r _ [6, 1, 7, 8, 9, 10, 11, 5, 12, 13, 14, 15, 16, 17, 18, 19, 20, 21, 22, 23, 24, 25, 26, 27, 28, 29, 30, 31, 32, 33, 34, 35, 36, 37, 38, 39, 40, 41] (by decide +kernel) (by decide +kernel)
set_option maxRecDepth 20000 in
theorem gX6_faultAt_X6_offBy : GoodIn wsX6_faultAt (wsV RX6 184 RX6 yX6_offBy wsX6_offBy) := goodIn_app (goodIn_of _ (by decide +kernel)) ggX6_faultAt_X6_offBy
theorem dX6_faultAt_0 : decode cX6_faultAt 0 = .ok (.iload_n 1, 1) := by decide +kernel
theorem dX6_faultAt_1 : decode cX6_faultAt 1 = .ok (.istore_n 2, 1) := by decide +kernel
theorem dX6_faultAt_2 : decode cX6_faultAt 2 = .ok (.iconst 0, 1) := by decide +kernel
theorem dX6_faultAt_3 : decode cX6_faultAt 3 = .ok (.istore_n 3, 1) := by decide +kernel
theorem dX6_faultAt_4 : decode cX6_faultAt 4 = .ok (.iload_n 3, 1) := by decide +kernel
theorem dX6_faultAt_5 : decode cX6_faultAt 5 = .ok (.aload_n 0, 1) := by decide +kernel
theorem dX6_faultAt_6 : decode cX6_faultAt 6 = .ok (.getfield 68, 3) := by decide +kernel
theorem dX6_faultAt_9 : decode cX6_faultAt 9 = .ok (.if_icmp .ge 30, 3) := by decide +kernel
theorem dX6_faultAt_12 : decode cX6_faultAt 12 = .ok (.iload_n 1, 1) := by decide +kernel
theorem dX6_faultAt_13 : decode cX6_faultAt 13 = .ok (.ifCond .lt 26, 3) := by decide +kernel
theorem dX6_faultAt_16 : decode cX6_faultAt 16 = .ok (.aload_n 0, 1) := by decide +kernel
theorem dX6_faultAt_17 : decode cX6_faultAt 17 = .ok (.iload_n 3, 1) := by decide +kernel
theorem dX6_faultAt_18 : decode cX6_faultAt 18 = .ok (.invokevirtual 184, 3) := by decide +kernel
theorem dX6_faultAt_21 : decode cX6_faultAt 21 = .ok (.ifCond .eq 12, 3) := by decide +kernel
theorem dX6_faultAt_24 : decode cX6_faultAt 24 = .ok (.iload_n 2, 1) := by decide +kernel
theorem dX6_faultAt_25 : decode cX6_faultAt 25 = .ok (.ifCond .ne 5, 3) := by decide +kernel
theorem dX6_faultAt_28 : decode cX6_faultAt 28 = .ok (.iload_n 3, 1) := by decide +kernel
theorem dX6_faultAt_29 : decode cX6_faultAt 29 = .ok (.ireturn, 1) := by decide +kernel
theorem dX6_faultAt_30 : decode cX6_faultAt 30 = .ok (.iinc 2 (-1), 3) := by decide +kernel
theorem dX6_faultAt_33 : decode cX6_faultAt 33 = .ok (.iinc 3 1, 3) := by decide +kernel
theorem dX6_faultAt_36 : decode cX6_faultAt 36 = .ok (.goto (-32), 3) := by decide +kernel
theorem dX6_faultAt_39 : decode cX6_faultAt 39 = .ok (.iconst (-1), 1) := by decide +kernel
theorem dX6_faultAt_40 : decode cX6_faultAt 40 = .ok (.ireturn, 1) := by decide +kernel
set_option maxRecDepth 20000 in
theorem ggX6_fault_X6_faultAt : GoodIn wsX6_fault wsX6_faultAt := goodIn_r _ [5, 6, 7, 8, 9, 4, 10, 11, 12, 13, 14, 15, 16, 17, 18, 19, 20, 21, 22, 23, 24, 25, 26, 27, 28, 29, 30, 31, 32, 33, 34, 35, 36, 37, 38, 39, 40, 41, 42, 43, 44, 45] (by decide +kernel) (by decide +kernel)
set_option maxRecDepth 20000 in
theorem gX6_fault_X6_faultAt : GoodIn wsX6_fault (wsV RX6 187 RX6 yX6_faultAt wsX6_faultAt) := goodIn_app (goodIn_of _ (by decide +kernel)) ggX6_fault_X6_faultAt
theorem dX6_fault_0 : decode cX6_fault 0 = .ok (.aload_n 0, 1) := by decide +kernel
theorem dX6_fault_1 : decode cX6_fault 1 = .ok (.iload_n 1, 1) := by decide +kernel
theorem dX6_fault_2 : decode cX6_fault 2 = .ok (.invokevirtual 187, 3) := by decide +kernel
theorem dX6_fault_5 : decode cX6_fault 5 = .ok (.ireturn, 1) := by decide +kernel
set_option maxRecDepth 20000 in
theorem ggX6_by_X6_faultAt : GoodIn wsX6_by wsX6_faultAt := goodIn_r _ [5, 6, 7, 8, 9, 4, 10, 11, 12, 13, 14, 15, 16, 17, 18, 19, 20, 21, 22, 23, 24, 25, 26, 27, 28, 29, 30, 31, 32, 33, 34, 35, 36, 37, 38, 39, 40, 41, 42, 43, 44, 45] (by decide +kernel) (by decide +kernel)
set_option maxRecDepth 20000 in
theorem gX6_by_X6_faultAt : GoodIn wsX6_by (wsV RX6 187 RX6 yX6_faultAt wsX6_faultAt) := goodIn_app (goodIn_of _ (by decide +kernel)) ggX6_by_X6_faultAt
set_option maxRecDepth 20000 in
theorem ggX6_by_X6_offBy : GoodIn wsX6_by wsX6_offBy := goodIn_r _ [10, 6, 11, 12, 13, 14, 15, 4, 16, 17, 18, 19, 20, 21, 22, 23, 24, 25, 26, 27, 28, 29, 30, 31, 32, 33, 34, 35, 36, 37, 38, 39, 40, 41, 42, 43, 44, 45] (by decide +kernel) (by decide +kernel)
set_option maxRecDepth 20000 in
theorem gX6_by_X6_offBy : GoodIn wsX6_by (wsV RX6 184 RX6 yX6_offBy wsX6_offBy) := goodIn_app (goodIn_of _ (by decide +kernel)) ggX6_by_X6_offBy
theorem dX6_by_0 : decode cX6_by 0 = .ok (.aload_n 0, 1) := by decide +kernel
theorem dX6_by_1 : decode cX6_by 1 = .ok (.iload_n 1, 1) := by decide +kernel
theorem dX6_by_2 : decode cX6_by 2 = .ok (.invokevirtual 187, 3) := by decide +kernel
theorem dX6_by_5 : decode cX6_by 5 = .ok (.istore_n 2, 1) := by decide +kernel
theorem dX6_by_6 : decode cX6_by 6 = .ok (.iload_n 2, 1) := by decide +kernel
theorem dX6_by_7 : decode cX6_by 7 = .ok (.iconst (-1), 1) := by decide +kernel
theorem dX6_by_8 : decode cX6_by 8 = .ok (.if_icmp .ne 7, 3) := by decide +kernel
theorem dX6_by_11 : decode cX6_by 11 = .ok (.iconst 0, 1) := by decide +kernel
theorem dX6_by_12 : decode cX6_by 12 = .ok (.goto 8, 3) := by decide +kernel
theorem dX6_by_15 : decode cX6_by 15 = .ok (.aload_n 0, 1) := by decide +kernel
theorem dX6_by_16 : decode cX6_by 16 = .ok (.iload_n 2, 1) := by decide +kernel
theorem dX6_by_17 : decode cX6_by 17 = .ok (.invokevirtual 184, 3) := by decide +kernel
theorem dX6_by_20 : decode cX6_by 20 = .ok (.ireturn, 1) := by decide +kernel
set_option maxRecDepth 20000 in
theorem ggX6_limit_X6_isPlace : GoodIn wsX6_limit wsX6_isPlace := goodIn_r _ [7, 8, 9, 10, 6, 11, 12, 13, 14, 15, 16, 17, 18, 19, 20, 21, 22, 23, 24, 25, 26, 27, 28, 29, 30, 31, 32, 33, 34, 35, 36] (by decide +kernel) (by decide +kernel)
set_option maxRecDepth 20000 in
theorem gX6_limit_X6_isPlace : GoodIn wsX6_limit (wsV RX6 78 RX6 yX6_isPlace wsX6_isPlace) := goodIn_app (goodIn_of _ (by decide +kernel)) ggX6_limit_X6_isPlace
set_option maxRecDepth 20000 in
theorem ggX6_limit_X6_in : GoodIn wsX6_limit wsX6_in := goodIn_r _ [11] (by decide +kernel) (by decide +kernel)
set_option maxRecDepth 20000 in
theorem gX6_limit_X6_in : GoodIn wsX6_limit (va_wsS RX6 74 yX6_in wsX6_in) := goodIn_app (goodIn_of _ (by decide +kernel)) ggX6_limit_X6_in
theorem dX6_limit_0 : decode cX6_limit 0 = .ok (.aload_n 0, 1) := by decide +kernel
theorem dX6_limit_1 : decode cX6_limit 1 = .ok (.iload_n 1, 1) := by decide +kernel
theorem dX6_limit_2 : decode cX6_limit 2 = .ok (.invokevirtual 78, 3) := by decide +kernel
theorem dX6_limit_5 : decode cX6_limit 5 = .ok (.ifCond .ne 6, 3) := by decide +kernel
theorem dX6_limit_8 : decode cX6_limit 8 = .ok (.bipush (-101), 2) := by decide +kernel
theorem dX6_limit_10 : decode cX6_limit 10 = .ok (.ireturn, 1) := by decide +kernel
theorem dX6_limit_11 : decode cX6_limit 11 = .ok (.iload_n 2, 1) := by decide +kernel
theorem dX6_limit_12 : decode cX6_limit 12 = .ok (.i2l, 1) := by decide +kernel
theorem dX6_limit_13 : decode cX6_limit 13 = .ok (.lconst 0, 1) := by decide +kernel
theorem dX6_limit_14 : decode cX6_limit 14 = .ok (.ldc2_w 190, 3) := by decide +kernel
theorem dX6_limit_17 : decode cX6_limit 17 = .ok (.invokestatic 74, 3) := by decide +kernel
theorem dX6_limit_20 : decode cX6_limit 20 = .ok (.ifCond .ne 6, 3) := by decide +kernel
theorem dX6_limit_23 : decode cX6_limit 23 = .ok (.bipush (-102), 2) := by decide +kernel
theorem dX6_limit_25 : decode cX6_limit 25 = .ok (.ireturn, 1) := by decide +kernel
theorem dX6_limit_26 : decode cX6_limit 26 = .ok (.aload_n 0, 1) := by decide +kernel
theorem dX6_limit_27 : decode cX6_limit 27 = .ok (.getfield 29, 3) := by decide +kernel
theorem dX6_limit_30 : decode cX6_limit 30 = .ok (.iload_n 1, 1) := by decide +kernel
theorem dX6_limit_31 : decode cX6_limit 31 = .ok (.iaload, 1) := by decide +kernel
theorem dX6_limit_32 : decode cX6_limit 32 = .ok (.istore_n 3, 1) := by decide +kernel
theorem dX6_limit_33 : decode cX6_limit 33 = .ok (.aload_n 0, 1) := by decide +kernel
theorem dX6_limit_34 : decode cX6_limit 34 = .ok (.getfield 29, 3) := by decide +kernel
theorem dX6_limit_37 : decode cX6_limit 37 = .ok (.iload_n 1, 1) := by decide +kernel
theorem dX6_limit_38 : decode cX6_limit 38 = .ok (.iload_n 2, 1) := by decide +kernel
theorem dX6_limit_39 : decode cX6_limit 39 = .ok (.iastore, 1) := by decide +kernel
theorem dX6_limit_40 : decode cX6_limit 40 = .ok (.iload_n 3, 1) := by decide +kernel
theorem dX6_limit_41 : decode cX6_limit 41 = .ok (.ireturn, 1) := by decide +kernel
set_option maxRecDepth 20000 in
theorem ggX6_broken_X6_farOf : GoodIn wsX6_broken wsX6_farOf := goodIn_r _ [7, 1, 8, 9, 10, 6, 11, 12, 13, 14, 15, 16, 17, 18, 19, 20, 21, 22, 23, 24, 25, 26, 27, 28, 29, 30, 31, 32, 33, 34, 35, 36] (by decide +kernel) (by decide +kernel)
set_option maxRecDepth 20000 in
theorem gX6_broken_X6_farOf : GoodIn wsX6_broken (wsV RX6 90 RX6 yX6_farOf wsX6_farOf) := goodIn_app (goodIn_of _ (by decide +kernel)) ggX6_broken_X6_farOf
theorem dX6_broken_0 : decode cX6_broken 0 = .ok (.iconst 0, 1) := by decide +kernel
theorem dX6_broken_1 : decode cX6_broken 1 = .ok (.istore_n 1, 1) := by decide +kernel
theorem dX6_broken_2 : decode cX6_broken 2 = .ok (.iload_n 1, 1) := by decide +kernel
theorem dX6_broken_3 : decode cX6_broken 3 = .ok (.aload_n 0, 1) := by decide +kernel
theorem dX6_broken_4 : decode cX6_broken 4 = .ok (.getfield 68, 3) := by decide +kernel
theorem dX6_broken_7 : decode cX6_broken 7 = .ok (.if_icmp .ge 38, 3) := by decide +kernel
theorem dX6_broken_10 : decode cX6_broken 10 = .ok (.aload_n 0, 1) := by decide +kernel
theorem dX6_broken_11 : decode cX6_broken 11 = .ok (.iload_n 1, 1) := by decide +kernel
theorem dX6_broken_12 : decode cX6_broken 12 = .ok (.invokevirtual 90, 3) := by decide +kernel
theorem dX6_broken_15 : decode cX6_broken 15 = .ok (.istore_n 2, 1) := by decide +kernel
theorem dX6_broken_16 : decode cX6_broken 16 = .ok (.iload_n 2, 1) := by decide +kernel
theorem dX6_broken_17 : decode cX6_broken 17 = .ok (.aload_n 0, 1) := by decide +kernel
theorem dX6_broken_18 : decode cX6_broken 18 = .ok (.getfield 29, 3) := by decide +kernel
theorem dX6_broken_21 : decode cX6_broken 21 = .ok (.iload_n 1, 1) := by decide +kernel
theorem dX6_broken_22 : decode cX6_broken 22 = .ok (.iaload, 1) := by decide +kernel
theorem dX6_broken_23 : decode cX6_broken 23 = .ok (.if_icmp .gt 14, 3) := by decide +kernel
theorem dX6_broken_26 : decode cX6_broken 26 = .ok (.iload_n 2, 1) := by decide +kernel
theorem dX6_broken_27 : decode cX6_broken 27 = .ok (.ineg, 1) := by decide +kernel
theorem dX6_broken_28 : decode cX6_broken 28 = .ok (.aload_n 0, 1) := by decide +kernel
theorem dX6_broken_29 : decode cX6_broken 29 = .ok (.getfield 29, 3) := by decide +kernel
theorem dX6_broken_32 : decode cX6_broken 32 = .ok (.iload_n 1, 1) := by decide +kernel
theorem dX6_broken_33 : decode cX6_broken 33 = .ok (.iaload, 1) := by decide +kernel
theorem dX6_broken_34 : decode cX6_broken 34 = .ok (.if_icmp .le 5, 3) := by decide +kernel
theorem dX6_broken_37 : decode cX6_broken 37 = .ok (.iload_n 1, 1) := by decide +kernel
theorem dX6_broken_38 : decode cX6_broken 38 = .ok (.ireturn, 1) := by decide +kernel
theorem dX6_broken_39 : decode cX6_broken 39 = .ok (.iinc 1 1, 3) := by decide +kernel
theorem dX6_broken_42 : decode cX6_broken 42 = .ok (.goto (-40), 3) := by decide +kernel
theorem dX6_broken_45 : decode cX6_broken 45 = .ok (.iconst (-1), 1) := by decide +kernel
theorem dX6_broken_46 : decode cX6_broken 46 = .ok (.ireturn, 1) := by decide +kernel
set_option maxRecDepth 20000 in
theorem ggX6_doubt_X6_in : GoodIn wsX6_doubt wsX6_in := goodIn_r _ [7] (by decide +kernel) (by decide +kernel)
set_option maxRecDepth 20000 in
theorem gX6_doubt_X6_in : GoodIn wsX6_doubt (va_wsS RX6 74 yX6_in wsX6_in) := goodIn_app (goodIn_of _ (by decide +kernel)) ggX6_doubt_X6_in
theorem dX6_doubt_0 : decode cX6_doubt 0 = .ok (.iload_n 1, 1) := by decide +kernel
theorem dX6_doubt_1 : decode cX6_doubt 1 = .ok (.i2l, 1) := by decide +kernel
theorem dX6_doubt_2 : decode cX6_doubt 2 = .ok (.lconst 0, 1) := by decide +kernel
theorem dX6_doubt_3 : decode cX6_doubt 3 = .ok (.ldc2_w 162, 3) := by decide +kernel
theorem dX6_doubt_6 : decode cX6_doubt 6 = .ok (.invokestatic 74, 3) := by decide +kernel
theorem dX6_doubt_9 : decode cX6_doubt 9 = .ok (.ifCond .ne 6, 3) := by decide +kernel
theorem dX6_doubt_12 : decode cX6_doubt 12 = .ok (.bipush (-102), 2) := by decide +kernel
theorem dX6_doubt_14 : decode cX6_doubt 14 = .ok (.ireturn, 1) := by decide +kernel
theorem dX6_doubt_15 : decode cX6_doubt 15 = .ok (.aload_n 0, 1) := by decide +kernel
theorem dX6_doubt_16 : decode cX6_doubt 16 = .ok (.getfield 192, 3) := by decide +kernel
theorem dX6_doubt_19 : decode cX6_doubt 19 = .ok (.bipush 18, 2) := by decide +kernel
theorem dX6_doubt_21 : decode cX6_doubt 21 = .ok (.if_icmp .ne 6, 3) := by decide +kernel
theorem dX6_doubt_24 : decode cX6_doubt 24 = .ok (.bipush (-104), 2) := by decide +kernel
theorem dX6_doubt_26 : decode cX6_doubt 26 = .ok (.ireturn, 1) := by decide +kernel
theorem dX6_doubt_27 : decode cX6_doubt 27 = .ok (.aload_n 0, 1) := by decide +kernel
theorem dX6_doubt_28 : decode cX6_doubt 28 = .ok (.getfield 51, 3) := by decide +kernel
theorem dX6_doubt_31 : decode cX6_doubt 31 = .ok (.aload_n 0, 1) := by decide +kernel
theorem dX6_doubt_32 : decode cX6_doubt 32 = .ok (.getfield 192, 3) := by decide +kernel
theorem dX6_doubt_35 : decode cX6_doubt 35 = .ok (.iload_n 1, 1) := by decide +kernel
theorem dX6_doubt_36 : decode cX6_doubt 36 = .ok (.iastore, 1) := by decide +kernel
theorem dX6_doubt_37 : decode cX6_doubt 37 = .ok (.aload_n 0, 1) := by decide +kernel
theorem dX6_doubt_38 : decode cX6_doubt 38 = .ok (.dup, 1) := by decide +kernel
theorem dX6_doubt_39 : decode cX6_doubt 39 = .ok (.getfield 192, 3) := by decide +kernel
theorem dX6_doubt_42 : decode cX6_doubt 42 = .ok (.iconst 1, 1) := by decide +kernel
theorem dX6_doubt_43 : decode cX6_doubt 43 = .ok (.iadd, 1) := by decide +kernel
theorem dX6_doubt_44 : decode cX6_doubt 44 = .ok (.putfield 192, 3) := by decide +kernel
theorem dX6_doubt_47 : decode cX6_doubt 47 = .ok (.aload_n 0, 1) := by decide +kernel
theorem dX6_doubt_48 : decode cX6_doubt 48 = .ok (.getfield 192, 3) := by decide +kernel
theorem dX6_doubt_51 : decode cX6_doubt 51 = .ok (.ireturn, 1) := by decide +kernel
set_option maxRecDepth 20000 in
theorem ggX6_budget_X6_in : GoodIn wsX6_budget wsX6_in := goodIn_r _ [7] (by decide +kernel) (by decide +kernel)
set_option maxRecDepth 20000 in
theorem gX6_budget_X6_in : GoodIn wsX6_budget (va_wsS RX6 74 yX6_in wsX6_in) := goodIn_app (goodIn_of _ (by decide +kernel)) ggX6_budget_X6_in
theorem dX6_budget_0 : decode cX6_budget 0 = .ok (.iload_n 1, 1) := by decide +kernel
theorem dX6_budget_1 : decode cX6_budget 1 = .ok (.i2l, 1) := by decide +kernel
theorem dX6_budget_2 : decode cX6_budget 2 = .ok (.lconst 0, 1) := by decide +kernel
theorem dX6_budget_3 : decode cX6_budget 3 = .ok (.ldc2_w 151, 3) := by decide +kernel
theorem dX6_budget_6 : decode cX6_budget 6 = .ok (.invokestatic 74, 3) := by decide +kernel
theorem dX6_budget_9 : decode cX6_budget 9 = .ok (.ifCond .ne 6, 3) := by decide +kernel
theorem dX6_budget_12 : decode cX6_budget 12 = .ok (.bipush (-102), 2) := by decide +kernel
theorem dX6_budget_14 : decode cX6_budget 14 = .ok (.ireturn, 1) := by decide +kernel
theorem dX6_budget_15 : decode cX6_budget 15 = .ok (.iconst 0, 1) := by decide +kernel
theorem dX6_budget_16 : decode cX6_budget 16 = .ok (.istore_n 2, 1) := by decide +kernel
theorem dX6_budget_17 : decode cX6_budget 17 = .ok (.iconst 0, 1) := by decide +kernel
theorem dX6_budget_18 : decode cX6_budget 18 = .ok (.istore_n 3, 1) := by decide +kernel
theorem dX6_budget_19 : decode cX6_budget 19 = .ok (.lconst 0, 1) := by decide +kernel
theorem dX6_budget_20 : decode cX6_budget 20 = .ok (.lstore 4, 2) := by decide +kernel
theorem dX6_budget_22 : decode cX6_budget 22 = .ok (.iconst 0, 1) := by decide +kernel
theorem dX6_budget_23 : decode cX6_budget 23 = .ok (.istore 6, 2) := by decide +kernel
theorem dX6_budget_25 : decode cX6_budget 25 = .ok (.iload 6, 2) := by decide +kernel
theorem dX6_budget_27 : decode cX6_budget 27 = .ok (.aload_n 0, 1) := by decide +kernel
theorem dX6_budget_28 : decode cX6_budget 28 = .ok (.getfield 192, 3) := by decide +kernel
theorem dX6_budget_31 : decode cX6_budget 31 = .ok (.if_icmp .ge 64, 3) := by decide +kernel
theorem dX6_budget_34 : decode cX6_budget 34 = .ok (.iload_n 2, 1) := by decide +kernel
theorem dX6_budget_35 : decode cX6_budget 35 = .ok (.aload_n 0, 1) := by decide +kernel
theorem dX6_budget_36 : decode cX6_budget 36 = .ok (.getfield 51, 3) := by decide +kernel
theorem dX6_budget_39 : decode cX6_budget 39 = .ok (.iload 6, 2) := by decide +kernel
theorem dX6_budget_41 : decode cX6_budget 41 = .ok (.iaload, 1) := by decide +kernel
theorem dX6_budget_42 : decode cX6_budget 42 = .ok (.iadd, 1) := by decide +kernel
theorem dX6_budget_43 : decode cX6_budget 43 = .ok (.istore_n 2, 1) := by decide +kernel
theorem dX6_budget_44 : decode cX6_budget 44 = .ok (.aload_n 0, 1) := by decide +kernel
theorem dX6_budget_45 : decode cX6_budget 45 = .ok (.getfield 51, 3) := by decide +kernel
theorem dX6_budget_48 : decode cX6_budget 48 = .ok (.iload 6, 2) := by decide +kernel
theorem dX6_budget_50 : decode cX6_budget 50 = .ok (.iaload, 1) := by decide +kernel
theorem dX6_budget_51 : decode cX6_budget 51 = .ok (.iload_n 3, 1) := by decide +kernel
theorem dX6_budget_52 : decode cX6_budget 52 = .ok (.if_icmp .le 13, 3) := by decide +kernel
theorem dX6_budget_55 : decode cX6_budget 55 = .ok (.aload_n 0, 1) := by decide +kernel
theorem dX6_budget_56 : decode cX6_budget 56 = .ok (.getfield 51, 3) := by decide +kernel
theorem dX6_budget_59 : decode cX6_budget 59 = .ok (.iload 6, 2) := by decide +kernel
theorem dX6_budget_61 : decode cX6_budget 61 = .ok (.iaload, 1) := by decide +kernel
theorem dX6_budget_62 : decode cX6_budget 62 = .ok (.goto 4, 3) := by decide +kernel
theorem dX6_budget_65 : decode cX6_budget 65 = .ok (.iload_n 3, 1) := by decide +kernel
theorem dX6_budget_66 : decode cX6_budget 66 = .ok (.istore_n 3, 1) := by decide +kernel
theorem dX6_budget_67 : decode cX6_budget 67 = .ok (.lload 4, 2) := by decide +kernel
theorem dX6_budget_69 : decode cX6_budget 69 = .ok (.aload_n 0, 1) := by decide +kernel
theorem dX6_budget_70 : decode cX6_budget 70 = .ok (.getfield 51, 3) := by decide +kernel
theorem dX6_budget_73 : decode cX6_budget 73 = .ok (.iload 6, 2) := by decide +kernel
theorem dX6_budget_75 : decode cX6_budget 75 = .ok (.iaload, 1) := by decide +kernel
theorem dX6_budget_76 : decode cX6_budget 76 = .ok (.i2l, 1) := by decide +kernel
theorem dX6_budget_77 : decode cX6_budget 77 = .ok (.aload_n 0, 1) := by decide +kernel
theorem dX6_budget_78 : decode cX6_budget 78 = .ok (.getfield 51, 3) := by decide +kernel
theorem dX6_budget_81 : decode cX6_budget 81 = .ok (.iload 6, 2) := by decide +kernel
theorem dX6_budget_83 : decode cX6_budget 83 = .ok (.iaload, 1) := by decide +kernel
theorem dX6_budget_84 : decode cX6_budget 84 = .ok (.i2l, 1) := by decide +kernel
theorem dX6_budget_85 : decode cX6_budget 85 = .ok (.lmul, 1) := by decide +kernel
theorem dX6_budget_86 : decode cX6_budget 86 = .ok (.ladd, 1) := by decide +kernel
theorem dX6_budget_87 : decode cX6_budget 87 = .ok (.lstore 4, 2) := by decide +kernel
theorem dX6_budget_89 : decode cX6_budget 89 = .ok (.iinc 6 1, 3) := by decide +kernel
theorem dX6_budget_92 : decode cX6_budget 92 = .ok (.goto (-67), 3) := by decide +kernel
theorem dX6_budget_95 : decode cX6_budget 95 = .ok (.iload_n 1, 1) := by decide +kernel
theorem dX6_budget_96 : decode cX6_budget 96 = .ok (.iconst 1, 1) := by decide +kernel
theorem dX6_budget_97 : decode cX6_budget 97 = .ok (.if_icmp .eq 13, 3) := by decide +kernel
theorem dX6_budget_100 : decode cX6_budget 100 = .ok (.iload_n 1, 1) := by decide +kernel
theorem dX6_budget_101 : decode cX6_budget 101 = .ok (.ifCond .ne 7, 3) := by decide +kernel
theorem dX6_budget_104 : decode cX6_budget 104 = .ok (.iload_n 2, 1) := by decide +kernel
theorem dX6_budget_105 : decode cX6_budget 105 = .ok (.goto 4, 3) := by decide +kernel
theorem dX6_budget_108 : decode cX6_budget 108 = .ok (.iload_n 3, 1) := by decide +kernel
theorem dX6_budget_109 : decode cX6_budget 109 = .ok (.ireturn, 1) := by decide +kernel
theorem dX6_budget_110 : decode cX6_budget 110 = .ok (.iload_n 3, 1) := by decide +kernel
theorem dX6_budget_111 : decode cX6_budget 111 = .ok (.i2l, 1) := by decide +kernel
theorem dX6_budget_112 : decode cX6_budget 112 = .ok (.lstore 6, 2) := by decide +kernel
theorem dX6_budget_114 : decode cX6_budget 114 = .ok (.lload 6, 2) := by decide +kernel
theorem dX6_budget_116 : decode cX6_budget 116 = .ok (.lload 6, 2) := by decide +kernel
theorem dX6_budget_118 : decode cX6_budget 118 = .ok (.lmul, 1) := by decide +kernel
theorem dX6_budget_119 : decode cX6_budget 119 = .ok (.lload 4, 2) := by decide +kernel
theorem dX6_budget_121 : decode cX6_budget 121 = .ok (.lcmp, 1) := by decide +kernel
theorem dX6_budget_122 : decode cX6_budget 122 = .ok (.ifCond .ge 12, 3) := by decide +kernel
theorem dX6_budget_125 : decode cX6_budget 125 = .ok (.lload 6, 2) := by decide +kernel
theorem dX6_budget_127 : decode cX6_budget 127 = .ok (.lconst 1, 1) := by decide +kernel
theorem dX6_budget_128 : decode cX6_budget 128 = .ok (.ladd, 1) := by decide +kernel
theorem dX6_budget_129 : decode cX6_budget 129 = .ok (.lstore 6, 2) := by decide +kernel
theorem dX6_budget_131 : decode cX6_budget 131 = .ok (.goto (-17), 3) := by decide +kernel
theorem dX6_budget_134 : decode cX6_budget 134 = .ok (.lload 6, 2) := by decide +kernel
theorem dX6_budget_136 : decode cX6_budget 136 = .ok (.l2i, 1) := by decide +kernel
theorem dX6_budget_137 : decode cX6_budget 137 = .ok (.ireturn, 1) := by decide +kernel
theorem dX6_sure_0 : decode cX6_sure 0 = .ok (.aload_n 0, 1) := by decide +kernel
theorem dX6_sure_1 : decode cX6_sure 1 = .ok (.getfield 192, 3) := by decide +kernel
theorem dX6_sure_4 : decode cX6_sure 4 = .ok (.istore_n 1, 1) := by decide +kernel
theorem dX6_sure_5 : decode cX6_sure 5 = .ok (.aload_n 0, 1) := by decide +kernel
theorem dX6_sure_6 : decode cX6_sure 6 = .ok (.iconst 0, 1) := by decide +kernel
theorem dX6_sure_7 : decode cX6_sure 7 = .ok (.putfield 192, 3) := by decide +kernel
theorem dX6_sure_10 : decode cX6_sure 10 = .ok (.iload_n 1, 1) := by decide +kernel
theorem dX6_sure_11 : decode cX6_sure 11 = .ok (.ireturn, 1) := by decide +kernel
set_option maxRecDepth 20000 in
theorem ggX6_count_X6_lostMany : GoodIn wsX6_count wsX6_lostMany := goodIn_r _ [12, 1, 13, 14, 15, 16, 17, 18, 19, 20, 21, 22, 23, 24, 25, 26, 27, 28, 29, 30, 31, 32, 33, 34, 35, 36, 37, 38] (by decide +kernel) (by decide +kernel)
set_option maxRecDepth 20000 in
theorem gX6_count_X6_lostMany : GoodIn wsX6_count (wsV RX6 120 RX6 yX6_lostMany wsX6_lostMany) := goodIn_app (goodIn_of _ (by decide +kernel)) ggX6_count_X6_lostMany
theorem dX6_count_0 : decode cX6_count 0 = .ok (.iconst 0, 1) := by decide +kernel
theorem dX6_count_1 : decode cX6_count 1 = .ok (.istore_n 2, 1) := by decide +kernel
theorem dX6_count_2 : decode cX6_count 2 = .ok (.iload_n 1, 1) := by decide +kernel
theorem dX6_count_3 : decode cX6_count 3 = .ok (.tableswitch 145 0 7 #[45, 50, 55, 90, 95, 100, 105, 140], 45) := by decide +kernel
theorem dX6_count_48 : decode cX6_count 48 = .ok (.aload_n 0, 1) := by decide +kernel
theorem dX6_count_49 : decode cX6_count 49 = .ok (.getfield 68, 3) := by decide +kernel
theorem dX6_count_52 : decode cX6_count 52 = .ok (.ireturn, 1) := by decide +kernel
theorem dX6_count_53 : decode cX6_count 53 = .ok (.aload_n 0, 1) := by decide +kernel
theorem dX6_count_54 : decode cX6_count 54 = .ok (.invokevirtual 120, 3) := by decide +kernel
theorem dX6_count_57 : decode cX6_count 57 = .ok (.ireturn, 1) := by decide +kernel
theorem dX6_count_58 : decode cX6_count 58 = .ok (.iconst 0, 1) := by decide +kernel
theorem dX6_count_59 : decode cX6_count 59 = .ok (.istore_n 3, 1) := by decide +kernel
theorem dX6_count_60 : decode cX6_count 60 = .ok (.iload_n 3, 1) := by decide +kernel
theorem dX6_count_61 : decode cX6_count 61 = .ok (.aload_n 0, 1) := by decide +kernel
theorem dX6_count_62 : decode cX6_count 62 = .ok (.getfield 68, 3) := by decide +kernel
theorem dX6_count_65 : decode cX6_count 65 = .ok (.if_icmp .ge 26, 3) := by decide +kernel
theorem dX6_count_68 : decode cX6_count 68 = .ok (.iload_n 2, 1) := by decide +kernel
theorem dX6_count_69 : decode cX6_count 69 = .ok (.aload_n 0, 1) := by decide +kernel
theorem dX6_count_70 : decode cX6_count 70 = .ok (.getfield 23, 3) := by decide +kernel
theorem dX6_count_73 : decode cX6_count 73 = .ok (.iload_n 3, 1) := by decide +kernel
theorem dX6_count_74 : decode cX6_count 74 = .ok (.baload, 1) := by decide +kernel
theorem dX6_count_75 : decode cX6_count 75 = .ok (.ifCond .eq 7, 3) := by decide +kernel
theorem dX6_count_78 : decode cX6_count 78 = .ok (.iconst 1, 1) := by decide +kernel
theorem dX6_count_79 : decode cX6_count 79 = .ok (.goto 4, 3) := by decide +kernel
theorem dX6_count_82 : decode cX6_count 82 = .ok (.iconst 0, 1) := by decide +kernel
theorem dX6_count_83 : decode cX6_count 83 = .ok (.iadd, 1) := by decide +kernel
theorem dX6_count_84 : decode cX6_count 84 = .ok (.istore_n 2, 1) := by decide +kernel
theorem dX6_count_85 : decode cX6_count 85 = .ok (.iinc 3 1, 3) := by decide +kernel
theorem dX6_count_88 : decode cX6_count 88 = .ok (.goto (-28), 3) := by decide +kernel
theorem dX6_count_91 : decode cX6_count 91 = .ok (.iload_n 2, 1) := by decide +kernel
theorem dX6_count_92 : decode cX6_count 92 = .ok (.ireturn, 1) := by decide +kernel
theorem dX6_count_93 : decode cX6_count 93 = .ok (.aload_n 0, 1) := by decide +kernel
theorem dX6_count_94 : decode cX6_count 94 = .ok (.getfield 58, 3) := by decide +kernel
theorem dX6_count_97 : decode cX6_count 97 = .ok (.ireturn, 1) := by decide +kernel
theorem dX6_count_98 : decode cX6_count 98 = .ok (.aload_n 0, 1) := by decide +kernel
theorem dX6_count_99 : decode cX6_count 99 = .ok (.getfield 62, 3) := by decide +kernel
theorem dX6_count_102 : decode cX6_count 102 = .ok (.ireturn, 1) := by decide +kernel
theorem dX6_count_103 : decode cX6_count 103 = .ok (.aload_n 0, 1) := by decide +kernel
theorem dX6_count_104 : decode cX6_count 104 = .ok (.getfield 65, 3) := by decide +kernel
theorem dX6_count_107 : decode cX6_count 107 = .ok (.ireturn, 1) := by decide +kernel
theorem dX6_count_108 : decode cX6_count 108 = .ok (.iconst 0, 1) := by decide +kernel
theorem dX6_count_109 : decode cX6_count 109 = .ok (.istore_n 3, 1) := by decide +kernel
theorem dX6_count_110 : decode cX6_count 110 = .ok (.iload_n 3, 1) := by decide +kernel
theorem dX6_count_111 : decode cX6_count 111 = .ok (.bipush 25, 2) := by decide +kernel
theorem dX6_count_113 : decode cX6_count 113 = .ok (.if_icmp .ge 26, 3) := by decide +kernel
theorem dX6_count_116 : decode cX6_count 116 = .ok (.iload_n 2, 1) := by decide +kernel
theorem dX6_count_117 : decode cX6_count 117 = .ok (.aload_n 0, 1) := by decide +kernel
theorem dX6_count_118 : decode cX6_count 118 = .ok (.getfield 45, 3) := by decide +kernel
theorem dX6_count_121 : decode cX6_count 121 = .ok (.iload_n 3, 1) := by decide +kernel
theorem dX6_count_122 : decode cX6_count 122 = .ok (.baload, 1) := by decide +kernel
theorem dX6_count_123 : decode cX6_count 123 = .ok (.ifCond .eq 7, 3) := by decide +kernel
theorem dX6_count_126 : decode cX6_count 126 = .ok (.iconst 1, 1) := by decide +kernel
theorem dX6_count_127 : decode cX6_count 127 = .ok (.goto 4, 3) := by decide +kernel
theorem dX6_count_130 : decode cX6_count 130 = .ok (.iconst 0, 1) := by decide +kernel
theorem dX6_count_131 : decode cX6_count 131 = .ok (.iadd, 1) := by decide +kernel
theorem dX6_count_132 : decode cX6_count 132 = .ok (.istore_n 2, 1) := by decide +kernel
theorem dX6_count_133 : decode cX6_count 133 = .ok (.iinc 3 1, 3) := by decide +kernel
theorem dX6_count_136 : decode cX6_count 136 = .ok (.goto (-26), 3) := by decide +kernel
theorem dX6_count_139 : decode cX6_count 139 = .ok (.iload_n 2, 1) := by decide +kernel
theorem dX6_count_140 : decode cX6_count 140 = .ok (.iconst 2, 1) := by decide +kernel
theorem dX6_count_141 : decode cX6_count 141 = .ok (.idiv, 1) := by decide +kernel
theorem dX6_count_142 : decode cX6_count 142 = .ok (.ireturn, 1) := by decide +kernel
theorem dX6_count_143 : decode cX6_count 143 = .ok (.aload_n 0, 1) := by decide +kernel
theorem dX6_count_144 : decode cX6_count 144 = .ok (.getfield 192, 3) := by decide +kernel
theorem dX6_count_147 : decode cX6_count 147 = .ok (.ireturn, 1) := by decide +kernel
theorem dX6_count_148 : decode cX6_count 148 = .ok (.bipush (-102), 2) := by decide +kernel
theorem dX6_count_150 : decode cX6_count 150 = .ok (.ireturn, 1) := by decide +kernel
theorem dX6_digest_0 : decode cX6_digest 0 = .ok (.ldc2_w 195, 3) := by decide +kernel
theorem dX6_digest_3 : decode cX6_digest 3 = .ok (.lstore_n 1, 1) := by decide +kernel
theorem dX6_digest_4 : decode cX6_digest 4 = .ok (.ldc2_w 108, 3) := by decide +kernel
theorem dX6_digest_7 : decode cX6_digest 7 = .ok (.lload_n 1, 1) := by decide +kernel
theorem dX6_digest_8 : decode cX6_digest 8 = .ok (.lmul, 1) := by decide +kernel
theorem dX6_digest_9 : decode cX6_digest 9 = .ok (.aload_n 0, 1) := by decide +kernel
theorem dX6_digest_10 : decode cX6_digest 10 = .ok (.getfield 68, 3) := by decide +kernel
theorem dX6_digest_13 : decode cX6_digest 13 = .ok (.i2l, 1) := by decide +kernel
theorem dX6_digest_14 : decode cX6_digest 14 = .ok (.ladd, 1) := by decide +kernel
theorem dX6_digest_15 : decode cX6_digest 15 = .ok (.lstore_n 1, 1) := by decide +kernel
theorem dX6_digest_16 : decode cX6_digest 16 = .ok (.iconst 0, 1) := by decide +kernel
theorem dX6_digest_17 : decode cX6_digest 17 = .ok (.istore_n 3, 1) := by decide +kernel
theorem dX6_digest_18 : decode cX6_digest 18 = .ok (.iload_n 3, 1) := by decide +kernel
theorem dX6_digest_19 : decode cX6_digest 19 = .ok (.aload_n 0, 1) := by decide +kernel
theorem dX6_digest_20 : decode cX6_digest 20 = .ok (.getfield 68, 3) := by decide +kernel
theorem dX6_digest_23 : decode cX6_digest 23 = .ok (.if_icmp .ge 132, 3) := by decide +kernel
theorem dX6_digest_26 : decode cX6_digest 26 = .ok (.ldc2_w 108, 3) := by decide +kernel
theorem dX6_digest_29 : decode cX6_digest 29 = .ok (.lload_n 1, 1) := by decide +kernel
theorem dX6_digest_30 : decode cX6_digest 30 = .ok (.lmul, 1) := by decide +kernel
theorem dX6_digest_31 : decode cX6_digest 31 = .ok (.aload_n 0, 1) := by decide +kernel
theorem dX6_digest_32 : decode cX6_digest 32 = .ok (.getfield 7, 3) := by decide +kernel
theorem dX6_digest_35 : decode cX6_digest 35 = .ok (.iload_n 3, 1) := by decide +kernel
theorem dX6_digest_36 : decode cX6_digest 36 = .ok (.iaload, 1) := by decide +kernel
theorem dX6_digest_37 : decode cX6_digest 37 = .ok (.i2l, 1) := by decide +kernel
theorem dX6_digest_38 : decode cX6_digest 38 = .ok (.ladd, 1) := by decide +kernel
theorem dX6_digest_39 : decode cX6_digest 39 = .ok (.lstore_n 1, 1) := by decide +kernel
theorem dX6_digest_40 : decode cX6_digest 40 = .ok (.ldc2_w 108, 3) := by decide +kernel
theorem dX6_digest_43 : decode cX6_digest 43 = .ok (.lload_n 1, 1) := by decide +kernel
theorem dX6_digest_44 : decode cX6_digest 44 = .ok (.lmul, 1) := by decide +kernel
theorem dX6_digest_45 : decode cX6_digest 45 = .ok (.aload_n 0, 1) := by decide +kernel
theorem dX6_digest_46 : decode cX6_digest 46 = .ok (.getfield 16, 3) := by decide +kernel
theorem dX6_digest_49 : decode cX6_digest 49 = .ok (.iload_n 3, 1) := by decide +kernel
theorem dX6_digest_50 : decode cX6_digest 50 = .ok (.iaload, 1) := by decide +kernel
theorem dX6_digest_51 : decode cX6_digest 51 = .ok (.i2l, 1) := by decide +kernel
theorem dX6_digest_52 : decode cX6_digest 52 = .ok (.ladd, 1) := by decide +kernel
theorem dX6_digest_53 : decode cX6_digest 53 = .ok (.lstore_n 1, 1) := by decide +kernel
theorem dX6_digest_54 : decode cX6_digest 54 = .ok (.ldc2_w 108, 3) := by decide +kernel
theorem dX6_digest_57 : decode cX6_digest 57 = .ok (.lload_n 1, 1) := by decide +kernel
theorem dX6_digest_58 : decode cX6_digest 58 = .ok (.lmul, 1) := by decide +kernel
theorem dX6_digest_59 : decode cX6_digest 59 = .ok (.aload_n 0, 1) := by decide +kernel
theorem dX6_digest_60 : decode cX6_digest 60 = .ok (.getfield 13, 3) := by decide +kernel
theorem dX6_digest_63 : decode cX6_digest 63 = .ok (.iload_n 3, 1) := by decide +kernel
theorem dX6_digest_64 : decode cX6_digest 64 = .ok (.iaload, 1) := by decide +kernel
theorem dX6_digest_65 : decode cX6_digest 65 = .ok (.i2l, 1) := by decide +kernel
theorem dX6_digest_66 : decode cX6_digest 66 = .ok (.ladd, 1) := by decide +kernel
theorem dX6_digest_67 : decode cX6_digest 67 = .ok (.lstore_n 1, 1) := by decide +kernel
theorem dX6_digest_68 : decode cX6_digest 68 = .ok (.ldc2_w 108, 3) := by decide +kernel
theorem dX6_digest_71 : decode cX6_digest 71 = .ok (.lload_n 1, 1) := by decide +kernel
theorem dX6_digest_72 : decode cX6_digest 72 = .ok (.lmul, 1) := by decide +kernel
theorem dX6_digest_73 : decode cX6_digest 73 = .ok (.aload_n 0, 1) := by decide +kernel
theorem dX6_digest_74 : decode cX6_digest 74 = .ok (.getfield 19, 3) := by decide +kernel
theorem dX6_digest_77 : decode cX6_digest 77 = .ok (.iload_n 3, 1) := by decide +kernel
theorem dX6_digest_78 : decode cX6_digest 78 = .ok (.baload, 1) := by decide +kernel
theorem dX6_digest_79 : decode cX6_digest 79 = .ok (.ifCond .eq 7, 3) := by decide +kernel
theorem dX6_digest_82 : decode cX6_digest 82 = .ok (.iconst 1, 1) := by decide +kernel
theorem dX6_digest_83 : decode cX6_digest 83 = .ok (.goto 4, 3) := by decide +kernel
theorem dX6_digest_86 : decode cX6_digest 86 = .ok (.iconst 0, 1) := by decide +kernel
theorem dX6_digest_87 : decode cX6_digest 87 = .ok (.i2l, 1) := by decide +kernel
theorem dX6_digest_88 : decode cX6_digest 88 = .ok (.ladd, 1) := by decide +kernel
theorem dX6_digest_89 : decode cX6_digest 89 = .ok (.lstore_n 1, 1) := by decide +kernel
theorem dX6_digest_90 : decode cX6_digest 90 = .ok (.ldc2_w 108, 3) := by decide +kernel
theorem dX6_digest_93 : decode cX6_digest 93 = .ok (.lload_n 1, 1) := by decide +kernel
theorem dX6_digest_94 : decode cX6_digest 94 = .ok (.lmul, 1) := by decide +kernel
theorem dX6_digest_95 : decode cX6_digest 95 = .ok (.aload_n 0, 1) := by decide +kernel
theorem dX6_digest_96 : decode cX6_digest 96 = .ok (.getfield 23, 3) := by decide +kernel
theorem dX6_digest_99 : decode cX6_digest 99 = .ok (.iload_n 3, 1) := by decide +kernel
theorem dX6_digest_100 : decode cX6_digest 100 = .ok (.baload, 1) := by decide +kernel
theorem dX6_digest_101 : decode cX6_digest 101 = .ok (.ifCond .eq 7, 3) := by decide +kernel
theorem dX6_digest_104 : decode cX6_digest 104 = .ok (.iconst 1, 1) := by decide +kernel
theorem dX6_digest_105 : decode cX6_digest 105 = .ok (.goto 4, 3) := by decide +kernel
theorem dX6_digest_108 : decode cX6_digest 108 = .ok (.iconst 0, 1) := by decide +kernel
theorem dX6_digest_109 : decode cX6_digest 109 = .ok (.i2l, 1) := by decide +kernel
theorem dX6_digest_110 : decode cX6_digest 110 = .ok (.ladd, 1) := by decide +kernel
theorem dX6_digest_111 : decode cX6_digest 111 = .ok (.lstore_n 1, 1) := by decide +kernel
theorem dX6_digest_112 : decode cX6_digest 112 = .ok (.aload_n 0, 1) := by decide +kernel
theorem dX6_digest_113 : decode cX6_digest 113 = .ok (.getfield 23, 3) := by decide +kernel
theorem dX6_digest_116 : decode cX6_digest 116 = .ok (.iload_n 3, 1) := by decide +kernel
theorem dX6_digest_117 : decode cX6_digest 117 = .ok (.baload, 1) := by decide +kernel
theorem dX6_digest_118 : decode cX6_digest 118 = .ok (.ifCond .eq 17, 3) := by decide +kernel
theorem dX6_digest_121 : decode cX6_digest 121 = .ok (.ldc2_w 108, 3) := by decide +kernel
theorem dX6_digest_124 : decode cX6_digest 124 = .ok (.lload_n 1, 1) := by decide +kernel
theorem dX6_digest_125 : decode cX6_digest 125 = .ok (.lmul, 1) := by decide +kernel
theorem dX6_digest_126 : decode cX6_digest 126 = .ok (.aload_n 0, 1) := by decide +kernel
theorem dX6_digest_127 : decode cX6_digest 127 = .ok (.getfield 26, 3) := by decide +kernel
theorem dX6_digest_130 : decode cX6_digest 130 = .ok (.iload_n 3, 1) := by decide +kernel
theorem dX6_digest_131 : decode cX6_digest 131 = .ok (.iaload, 1) := by decide +kernel
theorem dX6_digest_132 : decode cX6_digest 132 = .ok (.i2l, 1) := by decide +kernel
theorem dX6_digest_133 : decode cX6_digest 133 = .ok (.ladd, 1) := by decide +kernel
theorem dX6_digest_134 : decode cX6_digest 134 = .ok (.lstore_n 1, 1) := by decide +kernel
theorem dX6_digest_135 : decode cX6_digest 135 = .ok (.ldc2_w 108, 3) := by decide +kernel
theorem dX6_digest_138 : decode cX6_digest 138 = .ok (.lload_n 1, 1) := by decide +kernel
theorem dX6_digest_139 : decode cX6_digest 139 = .ok (.lmul, 1) := by decide +kernel
theorem dX6_digest_140 : decode cX6_digest 140 = .ok (.aload_n 0, 1) := by decide +kernel
theorem dX6_digest_141 : decode cX6_digest 141 = .ok (.getfield 29, 3) := by decide +kernel
theorem dX6_digest_144 : decode cX6_digest 144 = .ok (.iload_n 3, 1) := by decide +kernel
theorem dX6_digest_145 : decode cX6_digest 145 = .ok (.iaload, 1) := by decide +kernel
theorem dX6_digest_146 : decode cX6_digest 146 = .ok (.i2l, 1) := by decide +kernel
theorem dX6_digest_147 : decode cX6_digest 147 = .ok (.ladd, 1) := by decide +kernel
theorem dX6_digest_148 : decode cX6_digest 148 = .ok (.lstore_n 1, 1) := by decide +kernel
theorem dX6_digest_149 : decode cX6_digest 149 = .ok (.iinc 3 1, 3) := by decide +kernel
theorem dX6_digest_152 : decode cX6_digest 152 = .ok (.goto (-134), 3) := by decide +kernel
theorem dX6_digest_155 : decode cX6_digest 155 = .ok (.ldc2_w 108, 3) := by decide +kernel
theorem dX6_digest_158 : decode cX6_digest 158 = .ok (.lload_n 1, 1) := by decide +kernel
theorem dX6_digest_159 : decode cX6_digest 159 = .ok (.lmul, 1) := by decide +kernel
theorem dX6_digest_160 : decode cX6_digest 160 = .ok (.aload_n 0, 1) := by decide +kernel
theorem dX6_digest_161 : decode cX6_digest 161 = .ok (.getfield 58, 3) := by decide +kernel
theorem dX6_digest_164 : decode cX6_digest 164 = .ok (.i2l, 1) := by decide +kernel
theorem dX6_digest_165 : decode cX6_digest 165 = .ok (.ladd, 1) := by decide +kernel
theorem dX6_digest_166 : decode cX6_digest 166 = .ok (.lstore_n 1, 1) := by decide +kernel
theorem dX6_digest_167 : decode cX6_digest 167 = .ok (.ldc2_w 108, 3) := by decide +kernel
theorem dX6_digest_170 : decode cX6_digest 170 = .ok (.lload_n 1, 1) := by decide +kernel
theorem dX6_digest_171 : decode cX6_digest 171 = .ok (.lmul, 1) := by decide +kernel
theorem dX6_digest_172 : decode cX6_digest 172 = .ok (.aload_n 0, 1) := by decide +kernel
theorem dX6_digest_173 : decode cX6_digest 173 = .ok (.getfield 62, 3) := by decide +kernel
theorem dX6_digest_176 : decode cX6_digest 176 = .ok (.i2l, 1) := by decide +kernel
theorem dX6_digest_177 : decode cX6_digest 177 = .ok (.ladd, 1) := by decide +kernel
theorem dX6_digest_178 : decode cX6_digest 178 = .ok (.lstore_n 1, 1) := by decide +kernel
theorem dX6_digest_179 : decode cX6_digest 179 = .ok (.iconst 0, 1) := by decide +kernel
theorem dX6_digest_180 : decode cX6_digest 180 = .ok (.istore_n 3, 1) := by decide +kernel
theorem dX6_digest_181 : decode cX6_digest 181 = .ok (.iload_n 3, 1) := by decide +kernel
theorem dX6_digest_182 : decode cX6_digest 182 = .ok (.aload_n 0, 1) := by decide +kernel
theorem dX6_digest_183 : decode cX6_digest 183 = .ok (.getfield 58, 3) := by decide +kernel
theorem dX6_digest_186 : decode cX6_digest 186 = .ok (.if_icmp .gt 47, 3) := by decide +kernel
theorem dX6_digest_189 : decode cX6_digest 189 = .ok (.iconst 0, 1) := by decide +kernel
theorem dX6_digest_190 : decode cX6_digest 190 = .ok (.istore 4, 2) := by decide +kernel
theorem dX6_digest_192 : decode cX6_digest 192 = .ok (.iload 4, 2) := by decide +kernel
theorem dX6_digest_194 : decode cX6_digest 194 = .ok (.aload_n 0, 1) := by decide +kernel
theorem dX6_digest_195 : decode cX6_digest 195 = .ok (.getfield 62, 3) := by decide +kernel
theorem dX6_digest_198 : decode cX6_digest 198 = .ok (.if_icmp .ge 29, 3) := by decide +kernel
theorem dX6_digest_201 : decode cX6_digest 201 = .ok (.ldc2_w 108, 3) := by decide +kernel
theorem dX6_digest_204 : decode cX6_digest 204 = .ok (.lload_n 1, 1) := by decide +kernel
theorem dX6_digest_205 : decode cX6_digest 205 = .ok (.lmul, 1) := by decide +kernel
theorem dX6_digest_206 : decode cX6_digest 206 = .ok (.aload_n 0, 1) := by decide +kernel
theorem dX6_digest_207 : decode cX6_digest 207 = .ok (.getfield 42, 3) := by decide +kernel
theorem dX6_digest_210 : decode cX6_digest 210 = .ok (.bipush 9, 2) := by decide +kernel
theorem dX6_digest_212 : decode cX6_digest 212 = .ok (.iload_n 3, 1) := by decide +kernel
theorem dX6_digest_213 : decode cX6_digest 213 = .ok (.imul, 1) := by decide +kernel
theorem dX6_digest_214 : decode cX6_digest 214 = .ok (.iload 4, 2) := by decide +kernel
theorem dX6_digest_216 : decode cX6_digest 216 = .ok (.iadd, 1) := by decide +kernel
theorem dX6_digest_217 : decode cX6_digest 217 = .ok (.iaload, 1) := by decide +kernel
theorem dX6_digest_218 : decode cX6_digest 218 = .ok (.i2l, 1) := by decide +kernel
theorem dX6_digest_219 : decode cX6_digest 219 = .ok (.ladd, 1) := by decide +kernel
theorem dX6_digest_220 : decode cX6_digest 220 = .ok (.lstore_n 1, 1) := by decide +kernel
theorem dX6_digest_221 : decode cX6_digest 221 = .ok (.iinc 4 1, 3) := by decide +kernel
theorem dX6_digest_224 : decode cX6_digest 224 = .ok (.goto (-32), 3) := by decide +kernel
theorem dX6_digest_227 : decode cX6_digest 227 = .ok (.iinc 3 1, 3) := by decide +kernel
theorem dX6_digest_230 : decode cX6_digest 230 = .ok (.goto (-49), 3) := by decide +kernel
theorem dX6_digest_233 : decode cX6_digest 233 = .ok (.iconst 0, 1) := by decide +kernel
theorem dX6_digest_234 : decode cX6_digest 234 = .ok (.istore_n 3, 1) := by decide +kernel
theorem dX6_digest_235 : decode cX6_digest 235 = .ok (.iload_n 3, 1) := by decide +kernel
theorem dX6_digest_236 : decode cX6_digest 236 = .ok (.aload_n 0, 1) := by decide +kernel
theorem dX6_digest_237 : decode cX6_digest 237 = .ok (.getfield 58, 3) := by decide +kernel
theorem dX6_digest_240 : decode cX6_digest 240 = .ok (.if_icmp .ge 31, 3) := by decide +kernel
theorem dX6_digest_243 : decode cX6_digest 243 = .ok (.ldc2_w 108, 3) := by decide +kernel
theorem dX6_digest_246 : decode cX6_digest 246 = .ok (.lload_n 1, 1) := by decide +kernel
theorem dX6_digest_247 : decode cX6_digest 247 = .ok (.lmul, 1) := by decide +kernel
theorem dX6_digest_248 : decode cX6_digest 248 = .ok (.aload_n 0, 1) := by decide +kernel
theorem dX6_digest_249 : decode cX6_digest 249 = .ok (.getfield 42, 3) := by decide +kernel
theorem dX6_digest_252 : decode cX6_digest 252 = .ok (.bipush 9, 2) := by decide +kernel
theorem dX6_digest_254 : decode cX6_digest 254 = .ok (.iload_n 3, 1) := by decide +kernel
theorem dX6_digest_255 : decode cX6_digest 255 = .ok (.imul, 1) := by decide +kernel
theorem dX6_digest_256 : decode cX6_digest 256 = .ok (.aload_n 0, 1) := by decide +kernel
theorem dX6_digest_257 : decode cX6_digest 257 = .ok (.getfield 62, 3) := by decide +kernel
theorem dX6_digest_260 : decode cX6_digest 260 = .ok (.iadd, 1) := by decide +kernel
theorem dX6_digest_261 : decode cX6_digest 261 = .ok (.iaload, 1) := by decide +kernel
theorem dX6_digest_262 : decode cX6_digest 262 = .ok (.i2l, 1) := by decide +kernel
theorem dX6_digest_263 : decode cX6_digest 263 = .ok (.ladd, 1) := by decide +kernel
theorem dX6_digest_264 : decode cX6_digest 264 = .ok (.lstore_n 1, 1) := by decide +kernel
theorem dX6_digest_265 : decode cX6_digest 265 = .ok (.iinc 3 1, 3) := by decide +kernel
theorem dX6_digest_268 : decode cX6_digest 268 = .ok (.goto (-33), 3) := by decide +kernel
theorem dX6_digest_271 : decode cX6_digest 271 = .ok (.ldc2_w 108, 3) := by decide +kernel
theorem dX6_digest_274 : decode cX6_digest 274 = .ok (.lload_n 1, 1) := by decide +kernel
theorem dX6_digest_275 : decode cX6_digest 275 = .ok (.lmul, 1) := by decide +kernel
theorem dX6_digest_276 : decode cX6_digest 276 = .ok (.aload_n 0, 1) := by decide +kernel
theorem dX6_digest_277 : decode cX6_digest 277 = .ok (.getfield 65, 3) := by decide +kernel
theorem dX6_digest_280 : decode cX6_digest 280 = .ok (.i2l, 1) := by decide +kernel
theorem dX6_digest_281 : decode cX6_digest 281 = .ok (.ladd, 1) := by decide +kernel
theorem dX6_digest_282 : decode cX6_digest 282 = .ok (.lstore_n 1, 1) := by decide +kernel
theorem dX6_digest_283 : decode cX6_digest 283 = .ok (.iconst 0, 1) := by decide +kernel
theorem dX6_digest_284 : decode cX6_digest 284 = .ok (.istore_n 3, 1) := by decide +kernel
theorem dX6_digest_285 : decode cX6_digest 285 = .ok (.iload_n 3, 1) := by decide +kernel
theorem dX6_digest_286 : decode cX6_digest 286 = .ok (.aload_n 0, 1) := by decide +kernel
theorem dX6_digest_287 : decode cX6_digest 287 = .ok (.getfield 65, 3) := by decide +kernel
theorem dX6_digest_290 : decode cX6_digest 290 = .ok (.if_icmp .ge 89, 3) := by decide +kernel
theorem dX6_digest_293 : decode cX6_digest 293 = .ok (.iload_n 3, 1) := by decide +kernel
theorem dX6_digest_294 : decode cX6_digest 294 = .ok (.iconst 1, 1) := by decide +kernel
theorem dX6_digest_295 : decode cX6_digest 295 = .ok (.iadd, 1) := by decide +kernel
theorem dX6_digest_296 : decode cX6_digest 296 = .ok (.istore 4, 2) := by decide +kernel
theorem dX6_digest_298 : decode cX6_digest 298 = .ok (.iload 4, 2) := by decide +kernel
theorem dX6_digest_300 : decode cX6_digest 300 = .ok (.aload_n 0, 1) := by decide +kernel
theorem dX6_digest_301 : decode cX6_digest 301 = .ok (.getfield 65, 3) := by decide +kernel
theorem dX6_digest_304 : decode cX6_digest 304 = .ok (.if_icmp .ge 69, 3) := by decide +kernel
theorem dX6_digest_307 : decode cX6_digest 307 = .ok (.ldc2_w 108, 3) := by decide +kernel
theorem dX6_digest_310 : decode cX6_digest 310 = .ok (.lload_n 1, 1) := by decide +kernel
theorem dX6_digest_311 : decode cX6_digest 311 = .ok (.lmul, 1) := by decide +kernel
theorem dX6_digest_312 : decode cX6_digest 312 = .ok (.aload_n 0, 1) := by decide +kernel
theorem dX6_digest_313 : decode cX6_digest 313 = .ok (.getfield 45, 3) := by decide +kernel
theorem dX6_digest_316 : decode cX6_digest 316 = .ok (.iconst 5, 1) := by decide +kernel
theorem dX6_digest_317 : decode cX6_digest 317 = .ok (.iload_n 3, 1) := by decide +kernel
theorem dX6_digest_318 : decode cX6_digest 318 = .ok (.imul, 1) := by decide +kernel
theorem dX6_digest_319 : decode cX6_digest 319 = .ok (.iload 4, 2) := by decide +kernel
theorem dX6_digest_321 : decode cX6_digest 321 = .ok (.iadd, 1) := by decide +kernel
theorem dX6_digest_322 : decode cX6_digest 322 = .ok (.baload, 1) := by decide +kernel
theorem dX6_digest_323 : decode cX6_digest 323 = .ok (.ifCond .eq 7, 3) := by decide +kernel
theorem dX6_digest_326 : decode cX6_digest 326 = .ok (.iconst 1, 1) := by decide +kernel
theorem dX6_digest_327 : decode cX6_digest 327 = .ok (.goto 4, 3) := by decide +kernel
theorem dX6_digest_330 : decode cX6_digest 330 = .ok (.iconst 0, 1) := by decide +kernel
theorem dX6_digest_331 : decode cX6_digest 331 = .ok (.i2l, 1) := by decide +kernel
theorem dX6_digest_332 : decode cX6_digest 332 = .ok (.ladd, 1) := by decide +kernel
theorem dX6_digest_333 : decode cX6_digest 333 = .ok (.lstore_n 1, 1) := by decide +kernel
theorem dX6_digest_334 : decode cX6_digest 334 = .ok (.aload_n 0, 1) := by decide +kernel
theorem dX6_digest_335 : decode cX6_digest 335 = .ok (.getfield 45, 3) := by decide +kernel
theorem dX6_digest_338 : decode cX6_digest 338 = .ok (.iconst 5, 1) := by decide +kernel
theorem dX6_digest_339 : decode cX6_digest 339 = .ok (.iload_n 3, 1) := by decide +kernel
theorem dX6_digest_340 : decode cX6_digest 340 = .ok (.imul, 1) := by decide +kernel
theorem dX6_digest_341 : decode cX6_digest 341 = .ok (.iload 4, 2) := by decide +kernel
theorem dX6_digest_343 : decode cX6_digest 343 = .ok (.iadd, 1) := by decide +kernel
theorem dX6_digest_344 : decode cX6_digest 344 = .ok (.baload, 1) := by decide +kernel
theorem dX6_digest_345 : decode cX6_digest 345 = .ok (.ifCond .eq 22, 3) := by decide +kernel
theorem dX6_digest_348 : decode cX6_digest 348 = .ok (.ldc2_w 108, 3) := by decide +kernel
theorem dX6_digest_351 : decode cX6_digest 351 = .ok (.lload_n 1, 1) := by decide +kernel
theorem dX6_digest_352 : decode cX6_digest 352 = .ok (.lmul, 1) := by decide +kernel
theorem dX6_digest_353 : decode cX6_digest 353 = .ok (.aload_n 0, 1) := by decide +kernel
theorem dX6_digest_354 : decode cX6_digest 354 = .ok (.getfield 48, 3) := by decide +kernel
theorem dX6_digest_357 : decode cX6_digest 357 = .ok (.iconst 5, 1) := by decide +kernel
theorem dX6_digest_358 : decode cX6_digest 358 = .ok (.iload_n 3, 1) := by decide +kernel
theorem dX6_digest_359 : decode cX6_digest 359 = .ok (.imul, 1) := by decide +kernel
theorem dX6_digest_360 : decode cX6_digest 360 = .ok (.iload 4, 2) := by decide +kernel
theorem dX6_digest_362 : decode cX6_digest 362 = .ok (.iadd, 1) := by decide +kernel
theorem dX6_digest_363 : decode cX6_digest 363 = .ok (.iaload, 1) := by decide +kernel
theorem dX6_digest_364 : decode cX6_digest 364 = .ok (.i2l, 1) := by decide +kernel
theorem dX6_digest_365 : decode cX6_digest 365 = .ok (.ladd, 1) := by decide +kernel
theorem dX6_digest_366 : decode cX6_digest 366 = .ok (.lstore_n 1, 1) := by decide +kernel
theorem dX6_digest_367 : decode cX6_digest 367 = .ok (.iinc 4 1, 3) := by decide +kernel
theorem dX6_digest_370 : decode cX6_digest 370 = .ok (.goto (-72), 3) := by decide +kernel
theorem dX6_digest_373 : decode cX6_digest 373 = .ok (.iinc 3 1, 3) := by decide +kernel
theorem dX6_digest_376 : decode cX6_digest 376 = .ok (.goto (-91), 3) := by decide +kernel
theorem dX6_digest_379 : decode cX6_digest 379 = .ok (.iconst 0, 1) := by decide +kernel
theorem dX6_digest_380 : decode cX6_digest 380 = .ok (.istore_n 3, 1) := by decide +kernel
theorem dX6_digest_381 : decode cX6_digest 381 = .ok (.iload_n 3, 1) := by decide +kernel
theorem dX6_digest_382 : decode cX6_digest 382 = .ok (.aload_n 0, 1) := by decide +kernel
theorem dX6_digest_383 : decode cX6_digest 383 = .ok (.getfield 192, 3) := by decide +kernel
theorem dX6_digest_386 : decode cX6_digest 386 = .ok (.if_icmp .ge 23, 3) := by decide +kernel
theorem dX6_digest_389 : decode cX6_digest 389 = .ok (.ldc2_w 108, 3) := by decide +kernel
theorem dX6_digest_392 : decode cX6_digest 392 = .ok (.lload_n 1, 1) := by decide +kernel
theorem dX6_digest_393 : decode cX6_digest 393 = .ok (.lmul, 1) := by decide +kernel
theorem dX6_digest_394 : decode cX6_digest 394 = .ok (.aload_n 0, 1) := by decide +kernel
theorem dX6_digest_395 : decode cX6_digest 395 = .ok (.getfield 51, 3) := by decide +kernel
theorem dX6_digest_398 : decode cX6_digest 398 = .ok (.iload_n 3, 1) := by decide +kernel
theorem dX6_digest_399 : decode cX6_digest 399 = .ok (.iaload, 1) := by decide +kernel
theorem dX6_digest_400 : decode cX6_digest 400 = .ok (.i2l, 1) := by decide +kernel
theorem dX6_digest_401 : decode cX6_digest 401 = .ok (.ladd, 1) := by decide +kernel
theorem dX6_digest_402 : decode cX6_digest 402 = .ok (.lstore_n 1, 1) := by decide +kernel
theorem dX6_digest_403 : decode cX6_digest 403 = .ok (.iinc 3 1, 3) := by decide +kernel
theorem dX6_digest_406 : decode cX6_digest 406 = .ok (.goto (-25), 3) := by decide +kernel
theorem dX6_digest_409 : decode cX6_digest 409 = .ok (.lload_n 1, 1) := by decide +kernel
theorem dX6_digest_410 : decode cX6_digest 410 = .ok (.lreturn, 1) := by decide +kernel
