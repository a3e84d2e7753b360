theorem dX7_isRing_63 : decode cX7_isRing 63 = .ok (.ifCond .eq 33, 3) := by decide +kernel
theorem dX7_isRing_66 : decode cX7_isRing 66 = .ok (.aload_n 0, 1) := by decide +kernel
theorem dX7_isRing_67 : decode cX7_isRing 67 = .ok (.getfield 9, 3) := by decide +kernel
theorem dX7_isRing_70 : decode cX7_isRing 70 = .ok (.iload_n 3, 1) := by decide +kernel
theorem dX7_isRing_71 : decode cX7_isRing 71 = .ok (.iaload, 1) := by decide +kernel
theorem dX7_isRing_72 : decode cX7_isRing 72 = .ok (.aload_n 0, 1) := by decide +kernel
theorem dX7_isRing_73 : decode cX7_isRing 73 = .ok (.getfield 15, 3) := by decide +kernel
theorem dX7_isRing_76 : decode cX7_isRing 76 = .ok (.iload 4, 2) := by decide +kernel
theorem dX7_isRing_78 : decode cX7_isRing 78 = .ok (.iaload, 1) := by decide +kernel
theorem dX7_isRing_79 : decode cX7_isRing 79 = .ok (.if_icmp .ne 17, 3) := by decide +kernel
theorem dX7_isRing_82 : decode cX7_isRing 82 = .ok (.aload_n 0, 1) := by decide +kernel
theorem dX7_isRing_83 : decode cX7_isRing 83 = .ok (.iload 4, 2) := by decide +kernel
theorem dX7_isRing_85 : decode cX7_isRing 85 = .ok (.iload_n 1, 1) := by decide +kernel
theorem dX7_isRing_86 : decode cX7_isRing 86 = .ok (.invokevirtual 45, 3) := by decide +kernel
theorem dX7_isRing_89 : decode cX7_isRing 89 = .ok (.ifCond .ne 7, 3) := by decide +kernel
theorem dX7_isRing_92 : decode cX7_isRing 92 = .ok (.iconst 1, 1) := by decide +kernel
theorem dX7_isRing_93 : decode cX7_isRing 93 = .ok (.goto 4, 3) := by decide +kernel
theorem dX7_isRing_96 : decode cX7_isRing 96 = .ok (.iconst 0, 1) := by decide +kernel
theorem dX7_isRing_97 : decode cX7_isRing 97 = .ok (.istore 5, 2) := by decide +kernel
theorem dX7_isRing_99 : decode cX7_isRing 99 = .ok (.iload 5, 2) := by decide +kernel
theorem dX7_isRing_101 : decode cX7_isRing 101 = .ok (.ifCond .eq 16, 3) := by decide +kernel
theorem dX7_isRing_104 : decode cX7_isRing 104 = .ok (.aload_n 0, 1) := by decide +kernel
theorem dX7_isRing_105 : decode cX7_isRing 105 = .ok (.iload 4, 2) := by decide +kernel
theorem dX7_isRing_107 : decode cX7_isRing 107 = .ok (.iload_n 1, 1) := by decide +kernel
theorem dX7_isRing_108 : decode cX7_isRing 108 = .ok (.iload_n 2, 1) := by decide +kernel
theorem dX7_isRing_109 : decode cX7_isRing 109 = .ok (.invokevirtual 29, 3) := by decide +kernel
theorem dX7_isRing_112 : decode cX7_isRing 112 = .ok (.ifCond .eq 5, 3) := by decide +kernel
theorem dX7_isRing_115 : decode cX7_isRing 115 = .ok (.iconst 1, 1) := by decide +kernel
theorem dX7_isRing_116 : decode cX7_isRing 116 = .ok (.ireturn, 1) := by decide +kernel
theorem dX7_isRing_117 : decode cX7_isRing 117 = .ok (.iinc 4 1, 3) := by decide +kernel
theorem dX7_isRing_120 : decode cX7_isRing 120 = .ok (.goto (-70), 3) := by decide +kernel
theorem dX7_isRing_123 : decode cX7_isRing 123 = .ok (.iconst 0, 1) := by decide +kernel
theorem dX7_isRing_124 : decode cX7_isRing 124 = .ok (.ireturn, 1) := by decide +kernel
theorem dX7_isInRow_0 : decode cX7_isInRow 0 = .ok (.iconst 0, 1) := by decide +kernel
theorem dX7_isInRow_1 : decode cX7_isInRow 1 = .ok (.istore_n 3, 1) := by decide +kernel
theorem dX7_isInRow_2 : decode cX7_isInRow 2 = .ok (.iload_n 3, 1) := by decide +kernel
theorem dX7_isInRow_3 : decode cX7_isInRow 3 = .ok (.iload_n 2, 1) := by decide +kernel
theorem dX7_isInRow_4 : decode cX7_isInRow 4 = .ok (.if_icmp .ge 21, 3) := by decide +kernel
theorem dX7_isInRow_7 : decode cX7_isInRow 7 = .ok (.aload_n 0, 1) := by decide +kernel
theorem dX7_isInRow_8 : decode cX7_isInRow 8 = .ok (.getfield 18, 3) := by decide +kernel
theorem dX7_isInRow_11 : decode cX7_isInRow 11 = .ok (.iload_n 3, 1) := by decide +kernel
theorem dX7_isInRow_12 : decode cX7_isInRow 12 = .ok (.iaload, 1) := by decide +kernel
theorem dX7_isInRow_13 : decode cX7_isInRow 13 = .ok (.iload_n 1, 1) := by decide +kernel
theorem dX7_isInRow_14 : decode cX7_isInRow 14 = .ok (.if_icmp .ne 5, 3) := by decide +kernel
theorem dX7_isInRow_17 : decode cX7_isInRow 17 = .ok (.iconst 1, 1) := by decide +kernel
theorem dX7_isInRow_18 : decode cX7_isInRow 18 = .ok (.ireturn, 1) := by decide +kernel
theorem dX7_isInRow_19 : decode cX7_isInRow 19 = .ok (.iinc 3 1, 3) := by decide +kernel
theorem dX7_isInRow_22 : decode cX7_isInRow 22 = .ok (.goto (-20), 3) := by decide +kernel
theorem dX7_isInRow_25 : decode cX7_isInRow 25 = .ok (.iconst 0, 1) := by decide +kernel
theorem dX7_isInRow_26 : decode cX7_isInRow 26 = .ok (.ireturn, 1) := by decide +kernel
set_option maxRecDepth 20000 in
theorem ggX8_init_X2_init : GoodIn wsX8_init wsX2_init := goodIn_r _ [37, 38, 2, 3, 39, 40, 41, 42, 98, 99, 100, 101] (by decide +kernel) (by decide +kernel)
set_option maxRecDepth 20000 in
theorem gX8_init_X2_init_n9 : GoodIn wsX8_init (wsX2_init) := ggX8_init_X2_init
set_option maxRecDepth 20000 in
theorem ggX8_init_X5_init : GoodIn wsX8_init wsX5_init := goodIn_r _ [44, 45, 2, 3, 46, 39, 47, 48, 49, 111, 112, 113] (by decide +kernel) (by decide +kernel)
set_option maxRecDepth 20000 in
theorem gX8_init_X5_init_n18 : GoodIn wsX8_init (wsX5_init) := ggX8_init_X5_init
set_option maxRecDepth 20000 in
theorem ggX8_init_X6_init : GoodIn wsX8_init wsX6_init := goodIn_r _ [52, 53, 2, 3, 39, 54, 55, 56, 57, 58, 59, 60, 61, 62, 14, 63, 64, 114, 115, 116, 117, 118, 119, 120] (by decide +kernel) (by decide +kernel)
set_option maxRecDepth 20000 in
theorem gX8_init_X6_init : GoodIn wsX8_init (wsX6_init) := ggX8_init_X6_init
set_option maxRecDepth 20000 in
theorem ggX8_init_X4_init : GoodIn wsX8_init wsX4_init := goodIn_r _ [66, 67, 2, 3, 68, 13, 14, 69, 70, 51, 52, 53, 39, 54, 55, 56, 57, 58, 59, 60, 61, 62, 63, 64, 114, 115, 116, 117, 118, 119, 120, 121, 122, 123, 124, 125] (by decide +kernel) (by decide +kernel)
set_option maxRecDepth 20000 in
theorem gX8_init_X4_init_n32 : GoodIn wsX8_init (wsX4_init) := ggX8_init_X4_init
set_option maxRecDepth 20000 in
theorem ggX8_init_X1_init : GoodIn wsX8_init wsX1_init := goodIn_r _ [72, 73, 2, 3, 39, 74, 75, 13, 14, 76, 77, 51, 52, 53, 54, 55, 56, 57, 58, 59, 60, 61, 62, 63, 64, 126, 127, 128, 114, 115, 116, 117, 118, 119, 120] (by decide +kernel) (by decide +kernel)
set_option maxRecDepth 20000 in
theorem gX8_init_X1_init_n39 : GoodIn wsX8_init (wsX1_init) := ggX8_init_X1_init
set_option maxRecDepth 20000 in
theorem ggX8_init_X0_init : GoodIn wsX8_init wsX0_init := goodIn_r _ [79, 80, 2, 3, 81, 39, 82, 129, 130, 131, 132, 133] (by decide +kernel) (by decide +kernel)
set_option maxRecDepth 20000 in
theorem gX8_init_X0_init_n46 : GoodIn wsX8_init (wsX0_init) := ggX8_init_X0_init
set_option maxRecDepth 20000 in
theorem ggX8_init_X7_init : GoodIn wsX8_init wsX7_init := goodIn_r _ [85, 86, 2, 3, 39, 87, 88, 89, 134, 135, 136, 137] (by decide +kernel) (by decide +kernel)
set_option maxRecDepth 20000 in
theorem gX8_init_X7_init : GoodIn wsX8_init (wsX7_init) := ggX8_init_X7_init
set_option maxRecDepth 20000 in
theorem ggX8_init_X3_init : GoodIn wsX8_init wsX3_init := goodIn_r _ [92, 93, 2, 3, 39, 94, 95, 96, 97, 138, 139, 140, 141, 142] (by decide +kernel) (by decide +kernel)
set_option maxRecDepth 20000 in
theorem gX8_init_X3_init : GoodIn wsX8_init (wsX3_init) := ggX8_init_X3_init
theorem dX8_init_0 : decode cX8_init 0 = .ok (.aload_n 0, 1) := by decide +kernel
theorem dX8_init_1 : decode cX8_init 1 = .ok (.invokespecial 1, 3) := by decide +kernel
theorem dX8_init_4 : decode cX8_init 4 = .ok (.aload_n 0, 1) := by decide +kernel
theorem dX8_init_5 : decode cX8_init 5 = .ok (.new 7, 3) := by decide +kernel
theorem dX8_init_8 : decode cX8_init 8 = .ok (.dup, 1) := by decide +kernel
theorem dX8_init_9 : decode cX8_init 9 = .ok (.invokespecial 9, 3) := by decide +kernel
theorem dX8_init_12 : decode cX8_init 12 = .ok (.putfield 10, 3) := by decide +kernel
theorem dX8_init_15 : decode cX8_init 15 = .ok (.aload_n 0, 1) := by decide +kernel
theorem dX8_init_16 : decode cX8_init 16 = .ok (.new 16, 3) := by decide +kernel
theorem dX8_init_19 : decode cX8_init 19 = .ok (.dup, 1) := by decide +kernel
theorem dX8_init_20 : decode cX8_init 20 = .ok (.invokespecial 18, 3) := by decide +kernel
theorem dX8_init_23 : decode cX8_init 23 = .ok (.putfield 19, 3) := by decide +kernel
theorem dX8_init_26 : decode cX8_init 26 = .ok (.aload_n 0, 1) := by decide +kernel
theorem dX8_init_27 : decode cX8_init 27 = .ok (.new 23, 3) := by decide +kernel
theorem dX8_init_30 : decode cX8_init 30 = .ok (.dup, 1) := by decide +kernel
theorem dX8_init_31 : decode cX8_init 31 = .ok (.invokespecial 25, 3) := by decide +kernel
theorem dX8_init_34 : decode cX8_init 34 = .ok (.putfield 26, 3) := by decide +kernel
theorem dX8_init_37 : decode cX8_init 37 = .ok (.aload_n 0, 1) := by decide +kernel
theorem dX8_init_38 : decode cX8_init 38 = .ok (.new 30, 3) := by decide +kernel
theorem dX8_init_41 : decode cX8_init 41 = .ok (.dup, 1) := by decide +kernel
theorem dX8_init_42 : decode cX8_init 42 = .ok (.invokespecial 32, 3) := by decide +kernel
theorem dX8_init_45 : decode cX8_init 45 = .ok (.putfield 33, 3) := by decide +kernel
theorem dX8_init_48 : decode cX8_init 48 = .ok (.aload_n 0, 1) := by decide +kernel
theorem dX8_init_49 : decode cX8_init 49 = .ok (.new 37, 3) := by decide +kernel
theorem dX8_init_52 : decode cX8_init 52 = .ok (.dup, 1) := by decide +kernel
theorem dX8_init_53 : decode cX8_init 53 = .ok (.invokespecial 39, 3) := by decide +kernel
theorem dX8_init_56 : decode cX8_init 56 = .ok (.putfield 40, 3) := by decide +kernel
theorem dX8_init_59 : decode cX8_init 59 = .ok (.aload_n 0, 1) := by decide +kernel
theorem dX8_init_60 : decode cX8_init 60 = .ok (.new 44, 3) := by decide +kernel
theorem dX8_init_63 : decode cX8_init 63 = .ok (.dup, 1) := by decide +kernel
theorem dX8_init_64 : decode cX8_init 64 = .ok (.invokespecial 46, 3) := by decide +kernel
theorem dX8_init_67 : decode cX8_init 67 = .ok (.putfield 47, 3) := by decide +kernel
theorem dX8_init_70 : decode cX8_init 70 = .ok (.aload_n 0, 1) := by decide +kernel
theorem dX8_init_71 : decode cX8_init 71 = .ok (.new 51, 3) := by decide +kernel
theorem dX8_init_74 : decode cX8_init 74 = .ok (.dup, 1) := by decide +kernel
theorem dX8_init_75 : decode cX8_init 75 = .ok (.invokespecial 53, 3) := by decide +kernel
theorem dX8_init_78 : decode cX8_init 78 = .ok (.putfield 54, 3) := by decide +kernel
theorem dX8_init_81 : decode cX8_init 81 = .ok (.aload_n 0, 1) := by decide +kernel
theorem dX8_init_82 : decode cX8_init 82 = .ok (.new 58, 3) := by decide +kernel
theorem dX8_init_85 : decode cX8_init 85 = .ok (.dup, 1) := by decide +kernel
theorem dX8_init_86 : decode cX8_init 86 = .ok (.invokespecial 60, 3) := by decide +kernel
theorem dX8_init_89 : decode cX8_init 89 = .ok (.putfield 61, 3) := by decide +kernel
theorem dX8_init_92 : decode cX8_init 92 = .ok (.return_, 1) := by decide +kernel
set_option maxRecDepth 20000 in
theorem ggX8_kind_X2_add : GoodIn wsX8_kind wsX2_add := goodIn_r _ [11, 12, 13, 14, 15, 25, 26, 27, 28] (by decide +kernel) (by decide +kernel)
set_option maxRecDepth 20000 in
theorem gX8_kind_X2_add : GoodIn wsX8_kind (wsV RX8 83 RX2 yX2_add wsX2_add) := goodIn_app (goodIn_of _ (by decide +kernel)) ggX8_kind_X2_add
theorem dX8_kind_0 : decode cX8_kind 0 = .ok (.iload_n 1, 1) := by decide +kernel
theorem dX8_kind_1 : decode cX8_kind 1 = .ok (.ifCond .lt 8, 3) := by decide +kernel
theorem dX8_kind_4 : decode cX8_kind 4 = .ok (.iload_n 1, 1) := by decide +kernel
theorem dX8_kind_5 : decode cX8_kind 5 = .ok (.iconst 5, 1) := by decide +kernel
theorem dX8_kind_6 : decode cX8_kind 6 = .ok (.if_icmp .le 13, 3) := by decide +kernel
theorem dX8_kind_9 : decode cX8_kind 9 = .ok (.new 65, 3) := by decide +kernel
theorem dX8_kind_12 : decode cX8_kind 12 = .ok (.dup, 1) := by decide +kernel
theorem dX8_kind_13 : decode cX8_kind 13 = .ok (.ldc 67, 2) := by decide +kernel
theorem dX8_kind_15 : decode cX8_kind 15 = .ok (.invokespecial 69, 3) := by decide +kernel
theorem dX8_kind_18 : decode cX8_kind 18 = .ok (.athrow, 1) := by decide +kernel
theorem dX8_kind_19 : decode cX8_kind 19 = .ok (.iload_n 2, 1) := by decide +kernel
theorem dX8_kind_20 : decode cX8_kind 20 = .ok (.iconst 1, 1) := by decide +kernel
theorem dX8_kind_21 : decode cX8_kind 21 = .ok (.if_icmp .lt 9, 3) := by decide +kernel
theorem dX8_kind_24 : decode cX8_kind 24 = .ok (.iload_n 2, 1) := by decide +kernel
theorem dX8_kind_25 : decode cX8_kind 25 = .ok (.bipush 9, 2) := by decide +kernel
theorem dX8_kind_27 : decode cX8_kind 27 = .ok (.if_icmp .le 13, 3) := by decide +kernel
theorem dX8_kind_30 : decode cX8_kind 30 = .ok (.new 65, 3) := by decide +kernel
theorem dX8_kind_33 : decode cX8_kind 33 = .ok (.dup, 1) := by decide +kernel
theorem dX8_kind_34 : decode cX8_kind 34 = .ok (.ldc 72, 2) := by decide +kernel
theorem dX8_kind_36 : decode cX8_kind 36 = .ok (.invokespecial 69, 3) := by decide +kernel
theorem dX8_kind_39 : decode cX8_kind 39 = .ok (.athrow, 1) := by decide +kernel
theorem dX8_kind_40 : decode cX8_kind 40 = .ok (.aload_n 0, 1) := by decide +kernel
theorem dX8_kind_41 : decode cX8_kind 41 = .ok (.getfield 10, 3) := by decide +kernel
theorem dX8_kind_44 : decode cX8_kind 44 = .ok (.getfield 74, 3) := by decide +kernel
theorem dX8_kind_47 : decode cX8_kind 47 = .ok (.bipush 20, 2) := by decide +kernel
theorem dX8_kind_49 : decode cX8_kind 49 = .ok (.if_icmp .lt 13, 3) := by decide +kernel
theorem dX8_kind_52 : decode cX8_kind 52 = .ok (.new 78, 3) := by decide +kernel
theorem dX8_kind_55 : decode cX8_kind 55 = .ok (.dup, 1) := by decide +kernel
theorem dX8_kind_56 : decode cX8_kind 56 = .ok (.ldc 80, 2) := by decide +kernel
theorem dX8_kind_58 : decode cX8_kind 58 = .ok (.invokespecial 82, 3) := by decide +kernel
theorem dX8_kind_61 : decode cX8_kind 61 = .ok (.athrow, 1) := by decide +kernel
theorem dX8_kind_62 : decode cX8_kind 62 = .ok (.aload_n 0, 1) := by decide +kernel
theorem dX8_kind_63 : decode cX8_kind 63 = .ok (.getfield 10, 3) := by decide +kernel
theorem dX8_kind_66 : decode cX8_kind 66 = .ok (.iload_n 1, 1) := by decide +kernel
theorem dX8_kind_67 : decode cX8_kind 67 = .ok (.iload_n 2, 1) := by decide +kernel
theorem dX8_kind_68 : decode cX8_kind 68 = .ok (.invokevirtual 83, 3) := by decide +kernel
theorem dX8_kind_71 : decode cX8_kind 71 = .ok (.ireturn, 1) := by decide +kernel
set_option maxRecDepth 20000 in
theorem ggX8_ban_X8_needKind : GoodIn wsX8_ban wsX8_needKind := goodIn_ca (goodIn_r _ [8, 9, 10, 1, 11, 25, 26, 27, 28, 29, 30, 31, 32, 33, 34, 35, 36, 37] (by decide +kernel) (by decide +kernel)) (goodIn_sub (fun _ h => List.mem_cons_of_mem _ (List.mem_append_left _ (List.mem_append_right _ h))) (by decide +kernel))
set_option maxRecDepth 20000 in
theorem gX8_ban_X8_needKind : GoodIn wsX8_ban (wsV RX8 87 RX8 yX8_needKind wsX8_needKind) := goodIn_app (goodIn_of _ (by decide +kernel)) ggX8_ban_X8_needKind
set_option maxRecDepth 20000 in
theorem ggX8_ban_X8_needDay : GoodIn wsX8_ban wsX8_needDay := goodIn_ca (goodIn_r _ [15, 16, 17, 18, 25, 26, 27, 28, 29, 30, 31, 32, 33] (by decide +kernel) (by decide +kernel)) (goodIn_sub (fun _ h => List.mem_cons_of_mem _ (List.mem_append_right _ h)) (by decide +kernel))
set_option maxRecDepth 20000 in
theorem gX8_ban_X8_needDay : GoodIn wsX8_ban (wsV RX8 91 RX8 yX8_needDay wsX8_needDay) := goodIn_app (goodIn_of _ (by decide +kernel)) ggX8_ban_X8_needDay
set_option maxRecDepth 20000 in
theorem ggX8_ban_X5_countDecksWith : GoodIn wsX8_ban wsX5_countDecksWith := goodIn_r _ [23, 24, 38, 39, 40] (by decide +kernel) (by decide +kernel)
set_option maxRecDepth 20000 in
theorem gX8_ban_X5_countDecksWith : GoodIn wsX8_ban (wsV RX8 98 RX5 yX5_countDecksWith wsX5_countDecksWith) := goodIn_app (goodIn_of _ (by decide +kernel)) ggX8_ban_X5_countDecksWith
theorem dX8_ban_0 : decode cX8_ban 0 = .ok (.aload_n 0, 1) := by decide +kernel
theorem dX8_ban_1 : decode cX8_ban 1 = .ok (.iload_n 1, 1) := by decide +kernel
theorem dX8_ban_2 : decode cX8_ban 2 = .ok (.invokevirtual 87, 3) := by decide +kernel
theorem dX8_ban_5 : decode cX8_ban 5 = .ok (.aload_n 0, 1) := by decide +kernel
theorem dX8_ban_6 : decode cX8_ban 6 = .ok (.iload_n 2, 1) := by decide +kernel
theorem dX8_ban_7 : decode cX8_ban 7 = .ok (.invokevirtual 91, 3) := by decide +kernel
theorem dX8_ban_10 : decode cX8_ban 10 = .ok (.aload_n 0, 1) := by decide +kernel
theorem dX8_ban_11 : decode cX8_ban 11 = .ok (.getfield 10, 3) := by decide +kernel
theorem dX8_ban_14 : decode cX8_ban 14 = .ok (.getfield 94, 3) := by decide +kernel
theorem dX8_ban_17 : decode cX8_ban 17 = .ok (.iload_n 1, 1) := by decide +kernel
theorem dX8_ban_18 : decode cX8_ban 18 = .ok (.iload_n 2, 1) := by decide +kernel
theorem dX8_ban_19 : decode cX8_ban 19 = .ok (.iastore, 1) := by decide +kernel
theorem dX8_ban_20 : decode cX8_ban 20 = .ok (.aload_n 0, 1) := by decide +kernel
theorem dX8_ban_21 : decode cX8_ban 21 = .ok (.getfield 19, 3) := by decide +kernel
theorem dX8_ban_24 : decode cX8_ban 24 = .ok (.iload_n 1, 1) := by decide +kernel
theorem dX8_ban_25 : decode cX8_ban 25 = .ok (.invokevirtual 98, 3) := by decide +kernel
theorem dX8_ban_28 : decode cX8_ban 28 = .ok (.ireturn, 1) := by decide +kernel
set_option maxRecDepth 20000 in
theorem ggX8_get_X8_needPlayer : GoodIn wsX8_get wsX8_needPlayer := goodIn_ca (goodIn_r _ [8, 9, 10] (by decide +kernel) (by decide +kernel)) (goodIn_sub (fun _ h => List.mem_cons_of_mem _ (List.mem_append_right _ h)) (by decide +kernel))
set_option maxRecDepth 20000 in
theorem gX8_get_X8_needPlayer : GoodIn wsX8_get (va_wsS RX8 102 yX8_needPlayer wsX8_needPlayer) := goodIn_app (goodIn_of _ (by decide +kernel)) ggX8_get_X8_needPlayer
set_option maxRecDepth 20000 in
theorem ggX8_get_X8_needKind : GoodIn wsX8_get wsX8_needKind := goodIn_ca (goodIn_r _ [14, 9, 10, 15, 16, 17, 18, 19, 20, 21, 22, 23, 24, 25, 29, 30, 31, 32] (by decide +kernel) (by decide +kernel)) (goodIn_sub (fun _ h => List.mem_cons_of_mem _ (List.mem_append_right _ h)) (by decide +kernel))
set_option maxRecDepth 20000 in
theorem gX8_get_X8_needKind : GoodIn wsX8_get (wsV RX8 87 RX8 yX8_needKind wsX8_needKind) := goodIn_app (goodIn_of _ (by decide +kernel)) ggX8_get_X8_needKind
theorem dX8_get_0 : decode cX8_get 0 = .ok (.iload_n 1, 1) := by decide +kernel
theorem dX8_get_1 : decode cX8_get 1 = .ok (.invokestatic 102, 3) := by decide +kernel
theorem dX8_get_4 : decode cX8_get 4 = .ok (.aload_n 0, 1) := by decide +kernel
theorem dX8_get_5 : decode cX8_get 5 = .ok (.iload_n 2, 1) := by decide +kernel
theorem dX8_get_6 : decode cX8_get 6 = .ok (.invokevirtual 87, 3) := by decide +kernel
theorem dX8_get_9 : decode cX8_get 9 = .ok (.iload_n 3, 1) := by decide +kernel
theorem dX8_get_10 : decode cX8_get 10 = .ok (.iconst 1, 1) := by decide +kernel
theorem dX8_get_11 : decode cX8_get 11 = .ok (.if_icmp .lt 9, 3) := by decide +kernel
theorem dX8_get_14 : decode cX8_get 14 = .ok (.iload_n 3, 1) := by decide +kernel
theorem dX8_get_15 : decode cX8_get 15 = .ok (.bipush 9, 2) := by decide +kernel
theorem dX8_get_17 : decode cX8_get 17 = .ok (.if_icmp .le 13, 3) := by decide +kernel
theorem dX8_get_20 : decode cX8_get 20 = .ok (.new 65, 3) := by decide +kernel
theorem dX8_get_23 : decode cX8_get 23 = .ok (.dup, 1) := by decide +kernel
theorem dX8_get_24 : decode cX8_get 24 = .ok (.ldc 105, 2) := by decide +kernel
theorem dX8_get_26 : decode cX8_get 26 = .ok (.invokespecial 69, 3) := by decide +kernel
theorem dX8_get_29 : decode cX8_get 29 = .ok (.athrow, 1) := by decide +kernel
theorem dX8_get_30 : decode cX8_get 30 = .ok (.aload_n 0, 1) := by decide +kernel
theorem dX8_get_31 : decode cX8_get 31 = .ok (.getfield 19, 3) := by decide +kernel
theorem dX8_get_34 : decode cX8_get 34 = .ok (.getfield 107, 3) := by decide +kernel
theorem dX8_get_37 : decode cX8_get 37 = .ok (.iload_n 1, 1) := by decide +kernel
theorem dX8_get_38 : decode cX8_get 38 = .ok (.aaload, 1) := by decide +kernel
theorem dX8_get_39 : decode cX8_get 39 = .ok (.iload_n 2, 1) := by decide +kernel
theorem dX8_get_40 : decode cX8_get 40 = .ok (.dup2, 1) := by decide +kernel
theorem dX8_get_41 : decode cX8_get 41 = .ok (.iaload, 1) := by decide +kernel
theorem dX8_get_42 : decode cX8_get 42 = .ok (.iload_n 3, 1) := by decide +kernel
theorem dX8_get_43 : decode cX8_get 43 = .ok (.iadd, 1) := by decide +kernel
theorem dX8_get_44 : decode cX8_get 44 = .ok (.iastore, 1) := by decide +kernel
theorem dX8_get_45 : decode cX8_get 45 = .ok (.aload_n 0, 1) := by decide +kernel
theorem dX8_get_46 : decode cX8_get 46 = .ok (.getfield 19, 3) := by decide +kernel
theorem dX8_get_49 : decode cX8_get 49 = .ok (.getfield 107, 3) := by decide +kernel
theorem dX8_get_52 : decode cX8_get 52 = .ok (.iload_n 1, 1) := by decide +kernel
theorem dX8_get_53 : decode cX8_get 53 = .ok (.aaload, 1) := by decide +kernel
theorem dX8_get_54 : decode cX8_get 54 = .ok (.iload_n 2, 1) := by decide +kernel
theorem dX8_get_55 : decode cX8_get 55 = .ok (.iaload, 1) := by decide +kernel
theorem dX8_get_56 : decode cX8_get 56 = .ok (.ireturn, 1) := by decide +kernel
theorem dX8_pass_0 : decode cX8_pass 0 = .ok (.iload_n 1, 1) := by decide +kernel
theorem dX8_pass_1 : decode cX8_pass 1 = .ok (.iconst 1, 1) := by decide +kernel
theorem dX8_pass_2 : decode cX8_pass 2 = .ok (.if_icmp .lt 9, 3) := by decide +kernel
theorem dX8_pass_5 : decode cX8_pass 5 = .ok (.iload_n 1, 1) := by decide +kernel
theorem dX8_pass_6 : decode cX8_pass 6 = .ok (.bipush 100, 2) := by decide +kernel
theorem dX8_pass_8 : decode cX8_pass 8 = .ok (.if_icmp .le 13, 3) := by decide +kernel
theorem dX8_pass_11 : decode cX8_pass 11 = .ok (.new 65, 3) := by decide +kernel
theorem dX8_pass_14 : decode cX8_pass 14 = .ok (.dup, 1) := by decide +kernel
theorem dX8_pass_15 : decode cX8_pass 15 = .ok (.ldc 111, 2) := by decide +kernel
theorem dX8_pass_17 : decode cX8_pass 17 = .ok (.invokespecial 69, 3) := by decide +kernel
theorem dX8_pass_20 : decode cX8_pass 20 = .ok (.athrow, 1) := by decide +kernel
theorem dX8_pass_21 : decode cX8_pass 21 = .ok (.aload_n 0, 1) := by decide +kernel
theorem dX8_pass_22 : decode cX8_pass 22 = .ok (.getfield 113, 3) := by decide +kernel
theorem dX8_pass_25 : decode cX8_pass 25 = .ok (.iload_n 1, 1) := by decide +kernel
theorem dX8_pass_26 : decode cX8_pass 26 = .ok (.iadd, 1) := by decide +kernel
theorem dX8_pass_27 : decode cX8_pass 27 = .ok (.sipush 1000, 3) := by decide +kernel
theorem dX8_pass_30 : decode cX8_pass 30 = .ok (.if_icmp .le 13, 3) := by decide +kernel
theorem dX8_pass_33 : decode cX8_pass 33 = .ok (.new 78, 3) := by decide +kernel
theorem dX8_pass_36 : decode cX8_pass 36 = .ok (.dup, 1) := by decide +kernel
theorem dX8_pass_37 : decode cX8_pass 37 = .ok (.ldc 116, 2) := by decide +kernel
theorem dX8_pass_39 : decode cX8_pass 39 = .ok (.invokespecial 82, 3) := by decide +kernel
theorem dX8_pass_42 : decode cX8_pass 42 = .ok (.athrow, 1) := by decide +kernel
theorem dX8_pass_43 : decode cX8_pass 43 = .ok (.aload_n 0, 1) := by decide +kernel
theorem dX8_pass_44 : decode cX8_pass 44 = .ok (.dup, 1) := by decide +kernel
theorem dX8_pass_45 : decode cX8_pass 45 = .ok (.getfield 113, 3) := by decide +kernel
theorem dX8_pass_48 : decode cX8_pass 48 = .ok (.iload_n 1, 1) := by decide +kernel
theorem dX8_pass_49 : decode cX8_pass 49 = .ok (.iadd, 1) := by decide +kernel
theorem dX8_pass_50 : decode cX8_pass 50 = .ok (.putfield 113, 3) := by decide +kernel
theorem dX8_pass_53 : decode cX8_pass 53 = .ok (.aload_n 0, 1) := by decide +kernel
theorem dX8_pass_54 : decode cX8_pass 54 = .ok (.getfield 113, 3) := by decide +kernel
theorem dX8_pass_57 : decode cX8_pass 57 = .ok (.ireturn, 1) := by decide +kernel
set_option maxRecDepth 20000 in
theorem ggX8_play_X8_needPlayer : GoodIn wsX8_play wsX8_needPlayer := goodIn_ca (goodIn_r _ [15, 16, 17] (by decide +kernel) (by decide +kernel)) (goodIn_sub (fun _ h => List.mem_cons_of_mem _ (List.mem_append_right _ h)) (by decide +kernel))
set_option maxRecDepth 20000 in
theorem gX8_play_X8_needPlayer : GoodIn wsX8_play (va_wsS RX8 102 yX8_needPlayer wsX8_needPlayer) := goodIn_app (goodIn_of _ (by decide +kernel)) ggX8_play_X8_needPlayer
set_option maxRecDepth 20000 in
theorem ggX8_play_X8_needKind : GoodIn wsX8_play wsX8_needKind := goodIn_ca (goodIn_r _ [21, 16, 17, 5, 22, 50, 51, 52, 53, 54, 55, 56, 57, 58, 69, 70, 71, 72] (by decide +kernel) (by decide +kernel)) (goodIn_sub (fun _ h => List.mem_cons_of_mem _ (List.mem_append_right _ h)) (by decide +kernel))
set_option maxRecDepth 20000 in
theorem gX8_play_X8_needKind : GoodIn wsX8_play (wsV RX8 87 RX8 yX8_needKind wsX8_needKind) := goodIn_app (goodIn_of _ (by decide +kernel)) ggX8_play_X8_needKind
set_option maxRecDepth 20000 in
theorem ggX8_play_X2_isBanned : GoodIn wsX8_play wsX2_isBanned := goodIn_r _ [27, 28, 69, 70, 71, 72] (by decide +kernel) (by decide +kernel)
set_option maxRecDepth 20000 in
theorem gX8_play_X2_isBanned : GoodIn wsX8_play (wsV RX8 120 RX2 yX2_isBanned wsX2_isBanned) := goodIn_app (goodIn_of _ (by decide +kernel)) ggX8_play_X2_isBanned
set_option maxRecDepth 20000 in
theorem ggX8_play_X6_lay : GoodIn wsX8_play wsX6_lay := goodIn_r _ [33, 34, 35, 36, 37, 38, 62, 63, 64, 65, 66, 67, 68] (by decide +kernel) (by decide +kernel)
set_option maxRecDepth 20000 in
theorem gX8_play_X6_lay : GoodIn wsX8_play (wsV RX8 137 RX6 yX6_lay wsX6_lay) := goodIn_app (goodIn_of _ (by decide +kernel)) ggX8_play_X6_lay
set_option maxRecDepth 20000 in
theorem ggX8_play_X1_addPlay : GoodIn wsX8_play wsX1_addPlay := goodIn_r _ [43, 44, 45, 46, 42, 47, 48, 49, 73, 74, 75] (by decide +kernel) (by decide +kernel)
set_option maxRecDepth 20000 in
theorem gX8_play_X1_addPlay : GoodIn wsX8_play (wsV RX8 141 RX1 yX1_addPlay wsX1_addPlay) := goodIn_app (goodIn_of _ (by decide +kernel)) ggX8_play_X1_addPlay
theorem dX8_play_0 : decode cX8_play 0 = .ok (.iload_n 1, 1) := by decide +kernel
theorem dX8_play_1 : decode cX8_play 1 = .ok (.invokestatic 102, 3) := by decide +kernel
theorem dX8_play_4 : decode cX8_play 4 = .ok (.aload_n 0, 1) := by decide +kernel
theorem dX8_play_5 : decode cX8_play 5 = .ok (.iload_n 2, 1) := by decide +kernel
theorem dX8_play_6 : decode cX8_play 6 = .ok (.invokevirtual 87, 3) := by decide +kernel
theorem dX8_play_9 : decode cX8_play 9 = .ok (.iload_n 3, 1) := by decide +kernel
theorem dX8_play_10 : decode cX8_play 10 = .ok (.invokestatic 102, 3) := by decide +kernel
theorem dX8_play_13 : decode cX8_play 13 = .ok (.aload_n 0, 1) := by decide +kernel
theorem dX8_play_14 : decode cX8_play 14 = .ok (.getfield 19, 3) := by decide +kernel
theorem dX8_play_17 : decode cX8_play 17 = .ok (.getfield 107, 3) := by decide +kernel
theorem dX8_play_20 : decode cX8_play 20 = .ok (.iload_n 1, 1) := by decide +kernel
theorem dX8_play_21 : decode cX8_play 21 = .ok (.aaload, 1) := by decide +kernel
theorem dX8_play_22 : decode cX8_play 22 = .ok (.iload_n 2, 1) := by decide +kernel
theorem dX8_play_23 : decode cX8_play 23 = .ok (.iaload, 1) := by decide +kernel
theorem dX8_play_24 : decode cX8_play 24 = .ok (.iconst 1, 1) := by decide +kernel
theorem dX8_play_25 : decode cX8_play 25 = .ok (.if_icmp .ge 13, 3) := by decide +kernel
theorem dX8_play_28 : decode cX8_play 28 = .ok (.new 78, 3) := by decide +kernel
theorem dX8_play_31 : decode cX8_play 31 = .ok (.dup, 1) := by decide +kernel
theorem dX8_play_32 : decode cX8_play 32 = .ok (.ldc 118, 2) := by decide +kernel
theorem dX8_play_34 : decode cX8_play 34 = .ok (.invokespecial 82, 3) := by decide +kernel
theorem dX8_play_37 : decode cX8_play 37 = .ok (.athrow, 1) := by decide +kernel
theorem dX8_play_38 : decode cX8_play 38 = .ok (.aload_n 0, 1) := by decide +kernel
theorem dX8_play_39 : decode cX8_play 39 = .ok (.getfield 10, 3) := by decide +kernel
theorem dX8_play_42 : decode cX8_play 42 = .ok (.iload_n 2, 1) := by decide +kernel
theorem dX8_play_43 : decode cX8_play 43 = .ok (.aload_n 0, 1) := by decide +kernel
theorem dX8_play_44 : decode cX8_play 44 = .ok (.getfield 113, 3) := by decide +kernel
theorem dX8_play_47 : decode cX8_play 47 = .ok (.invokevirtual 120, 3) := by decide +kernel
theorem dX8_play_50 : decode cX8_play 50 = .ok (.ifCond .eq 13, 3) := by decide +kernel
theorem dX8_play_53 : decode cX8_play 53 = .ok (.new 78, 3) := by decide +kernel
theorem dX8_play_56 : decode cX8_play 56 = .ok (.dup, 1) := by decide +kernel
theorem dX8_play_57 : decode cX8_play 57 = .ok (.ldc 124, 2) := by decide +kernel
theorem dX8_play_59 : decode cX8_play 59 = .ok (.invokespecial 82, 3) := by decide +kernel
theorem dX8_play_62 : decode cX8_play 62 = .ok (.athrow, 1) := by decide +kernel
theorem dX8_play_63 : decode cX8_play 63 = .ok (.aload_n 0, 1) := by decide +kernel
theorem dX8_play_64 : decode cX8_play 64 = .ok (.getfield 26, 3) := by decide +kernel
theorem dX8_play_67 : decode cX8_play 67 = .ok (.getfield 126, 3) := by decide +kernel
theorem dX8_play_70 : decode cX8_play 70 = .ok (.bipush 6, 2) := by decide +kernel
theorem dX8_play_72 : decode cX8_play 72 = .ok (.if_icmp .lt 13, 3) := by decide +kernel
theorem dX8_play_75 : decode cX8_play 75 = .ok (.new 78, 3) := by decide +kernel
theorem dX8_play_78 : decode cX8_play 78 = .ok (.dup, 1) := by decide +kernel
theorem dX8_play_79 : decode cX8_play 79 = .ok (.ldc 129, 2) := by decide +kernel
theorem dX8_play_81 : decode cX8_play 81 = .ok (.invokespecial 82, 3) := by decide +kernel
theorem dX8_play_84 : decode cX8_play 84 = .ok (.athrow, 1) := by decide +kernel
theorem dX8_play_85 : decode cX8_play 85 = .ok (.aload_n 0, 1) := by decide +kernel
theorem dX8_play_86 : decode cX8_play 86 = .ok (.getfield 26, 3) := by decide +kernel
theorem dX8_play_89 : decode cX8_play 89 = .ok (.aload_n 0, 1) := by decide +kernel
theorem dX8_play_90 : decode cX8_play 90 = .ok (.getfield 10, 3) := by decide +kernel
theorem dX8_play_93 : decode cX8_play 93 = .ok (.getfield 131, 3) := by decide +kernel
theorem dX8_play_96 : decode cX8_play 96 = .ok (.iload_n 2, 1) := by decide +kernel
theorem dX8_play_97 : decode cX8_play 97 = .ok (.iaload, 1) := by decide +kernel
theorem dX8_play_98 : decode cX8_play 98 = .ok (.aload_n 0, 1) := by decide +kernel
theorem dX8_play_99 : decode cX8_play 99 = .ok (.getfield 10, 3) := by decide +kernel
theorem dX8_play_102 : decode cX8_play 102 = .ok (.getfield 134, 3) := by decide +kernel
theorem dX8_play_105 : decode cX8_play 105 = .ok (.iload_n 2, 1) := by decide +kernel
theorem dX8_play_106 : decode cX8_play 106 = .ok (.iaload, 1) := by decide +kernel
theorem dX8_play_107 : decode cX8_play 107 = .ok (.iload_n 1, 1) := by decide +kernel
theorem dX8_play_108 : decode cX8_play 108 = .ok (.iload_n 3, 1) := by decide +kernel
theorem dX8_play_109 : decode cX8_play 109 = .ok (.invokevirtual 137, 3) := by decide +kernel
theorem dX8_play_112 : decode cX8_play 112 = .ok (.aload_n 0, 1) := by decide +kernel
theorem dX8_play_113 : decode cX8_play 113 = .ok (.getfield 40, 3) := by decide +kernel
theorem dX8_play_116 : decode cX8_play 116 = .ok (.aload_n 0, 1) := by decide +kernel
theorem dX8_play_117 : decode cX8_play 117 = .ok (.getfield 10, 3) := by decide +kernel
theorem dX8_play_120 : decode cX8_play 120 = .ok (.getfield 131, 3) := by decide +kernel
theorem dX8_play_123 : decode cX8_play 123 = .ok (.iload_n 2, 1) := by decide +kernel
theorem dX8_play_124 : decode cX8_play 124 = .ok (.iaload, 1) := by decide +kernel
theorem dX8_play_125 : decode cX8_play 125 = .ok (.aload_n 0, 1) := by decide +kernel
theorem dX8_play_126 : decode cX8_play 126 = .ok (.getfield 10, 3) := by decide +kernel
theorem dX8_play_129 : decode cX8_play 129 = .ok (.getfield 134, 3) := by decide +kernel
theorem dX8_play_132 : decode cX8_play 132 = .ok (.iload_n 2, 1) := by decide +kernel
theorem dX8_play_133 : decode cX8_play 133 = .ok (.iaload, 1) := by decide +kernel
theorem dX8_play_134 : decode cX8_play 134 = .ok (.iload_n 1, 1) := by decide +kernel
theorem dX8_play_135 : decode cX8_play 135 = .ok (.iload_n 3, 1) := by decide +kernel
theorem dX8_play_136 : decode cX8_play 136 = .ok (.invokevirtual 141, 3) := by decide +kernel
theorem dX8_play_139 : decode cX8_play 139 = .ok (.aload_n 0, 1) := by decide +kernel
theorem dX8_play_140 : decode cX8_play 140 = .ok (.getfield 26, 3) := by decide +kernel
theorem dX8_play_143 : decode cX8_play 143 = .ok (.getfield 126, 3) := by decide +kernel
theorem dX8_play_146 : decode cX8_play 146 = .ok (.ireturn, 1) := by decide +kernel
set_option maxRecDepth 20000 in
theorem ggX8_top_X6_doTop : GoodIn wsX8_top wsX6_doTop := goodIn_r _ [10, 11, 12, 13, 14, 9, 15, 16, 17, 18, 19, 20, 21, 22, 23, 24, 25, 26, 27, 28, 29, 30, 31, 32, 33, 34, 35, 36, 37, 38, 39, 40, 41, 42, 43, 44, 45, 46, 47, 48, 69, 70, 71, 72, 73, 74, 75] (by decide +kernel) (by decide +kernel)
set_option maxRecDepth 20000 in
theorem gX8_top_X6_doTop : GoodIn wsX8_top (wsV RX8 146 RX6 yX6_doTop wsX6_doTop) := goodIn_app (goodIn_of _ (by decide +kernel)) ggX8_top_X6_doTop
set_option maxRecDepth 20000 in
theorem ggX8_top_X1_addDoing : GoodIn wsX8_top wsX1_addDoing := goodIn_r _ [53, 54, 55, 56, 52, 57, 58, 59, 76, 77, 78] (by decide +kernel) (by decide +kernel)
set_option maxRecDepth 20000 in
theorem gX8_top_X1_addDoing : GoodIn wsX8_top (wsV RX8 152 RX1 yX1_addDoing wsX1_addDoing) := goodIn_app (goodIn_of _ (by decide +kernel)) ggX8_top_X1_addDoing
theorem dX8_top_0 : decode cX8_top 0 = .ok (.aload_n 0, 1) := by decide +kernel
theorem dX8_top_1 : decode cX8_top 1 = .ok (.getfield 26, 3) := by decide +kernel
theorem dX8_top_4 : decode cX8_top 4 = .ok (.getfield 126, 3) := by decide +kernel
theorem dX8_top_7 : decode cX8_top 7 = .ok (.ifCond .ne 13, 3) := by decide +kernel
theorem dX8_top_10 : decode cX8_top 10 = .ok (.new 78, 3) := by decide +kernel
theorem dX8_top_13 : decode cX8_top 13 = .ok (.dup, 1) := by decide +kernel
theorem dX8_top_14 : decode cX8_top 14 = .ok (.ldc 144, 2) := by decide +kernel
theorem dX8_top_16 : decode cX8_top 16 = .ok (.invokespecial 82, 3) := by decide +kernel
theorem dX8_top_19 : decode cX8_top 19 = .ok (.athrow, 1) := by decide +kernel
theorem dX8_top_20 : decode cX8_top 20 = .ok (.aload_n 0, 1) := by decide +kernel
theorem dX8_top_21 : decode cX8_top 21 = .ok (.getfield 26, 3) := by decide +kernel
theorem dX8_top_24 : decode cX8_top 24 = .ok (.invokevirtual 146, 3) := by decide +kernel
theorem dX8_top_27 : decode cX8_top 27 = .ok (.ifCond .ne 13, 3) := by decide +kernel
theorem dX8_top_30 : decode cX8_top 30 = .ok (.new 78, 3) := by decide +kernel
theorem dX8_top_33 : decode cX8_top 33 = .ok (.dup, 1) := by decide +kernel
theorem dX8_top_34 : decode cX8_top 34 = .ok (.ldc 150, 2) := by decide +kernel
theorem dX8_top_36 : decode cX8_top 36 = .ok (.invokespecial 82, 3) := by decide +kernel
theorem dX8_top_39 : decode cX8_top 39 = .ok (.athrow, 1) := by decide +kernel
theorem dX8_top_40 : decode cX8_top 40 = .ok (.aload_n 0, 1) := by decide +kernel
theorem dX8_top_41 : decode cX8_top 41 = .ok (.getfield 40, 3) := by decide +kernel
theorem dX8_top_44 : decode cX8_top 44 = .ok (.invokevirtual 152, 3) := by decide +kernel
theorem dX8_top_47 : decode cX8_top 47 = .ok (.aload_n 0, 1) := by decide +kernel
theorem dX8_top_48 : decode cX8_top 48 = .ok (.getfield 26, 3) := by decide +kernel
theorem dX8_top_51 : decode cX8_top 51 = .ok (.getfield 126, 3) := by decide +kernel
theorem dX8_top_54 : decode cX8_top 54 = .ok (.ireturn, 1) := by decide +kernel
set_option maxRecDepth 20000 in
theorem ggX8_bound_X8_needPlayer : GoodIn wsX8_bound wsX8_needPlayer := goodIn_ca (goodIn_r _ [6, 7, 8] (by decide +kernel) (by decide +kernel)) (goodIn_sub (fun _ h => List.mem_cons_of_mem _ (List.mem_append_right _ h)) (by decide +kernel))
set_option maxRecDepth 20000 in
theorem gX8_bound_X8_needPlayer : GoodIn wsX8_bound (va_wsS RX8 102 yX8_needPlayer wsX8_needPlayer) := goodIn_app (goodIn_of _ (by decide +kernel)) ggX8_bound_X8_needPlayer
set_option maxRecDepth 20000 in
theorem ggX8_bound_X4_find : GoodIn wsX8_bound wsX4_find := goodIn_r _ [13, 14, 15, 16, 17, 18, 19, 20, 21, 22, 23, 24, 25, 26, 27, 28, 29, 30, 31, 32, 33, 34, 12, 35, 36, 37, 38, 39, 40, 41, 42, 43, 44, 45, 46, 47, 48, 49, 50, 51, 52, 53, 54, 55, 56, 57, 58, 59, 60, 61, 62, 63, 64, 65, 66, 67, 68, 69, 70, 71, 72, 73, 74, 75, 76, 77, 78, 79, 80, 81, 82, 83, 93, 94, 95, 96, 97, 98, 99, 100, 101, 102, 103, 104] (by decide +kernel) (by decide +kernel)
set_option maxRecDepth 20000 in
theorem gX8_bound_X4_find : GoodIn wsX8_bound (wsV RX8 155 RX4 yX4_find wsX4_find) := goodIn_app (goodIn_of _ (by decide +kernel)) ggX8_bound_X4_find
theorem dX8_bound_0 : decode cX8_bound 0 = .ok (.iload_n 1, 1) := by decide +kernel
theorem dX8_bound_1 : decode cX8_bound 1 = .ok (.invokestatic 102, 3) := by decide +kernel
theorem dX8_bound_4 : decode cX8_bound 4 = .ok (.aload_n 0, 1) := by decide +kernel
theorem dX8_bound_5 : decode cX8_bound 5 = .ok (.getfield 33, 3) := by decide +kernel
theorem dX8_bound_8 : decode cX8_bound 8 = .ok (.aload_n 0, 1) := by decide +kernel
theorem dX8_bound_9 : decode cX8_bound 9 = .ok (.getfield 26, 3) := by decide +kernel
theorem dX8_bound_12 : decode cX8_bound 12 = .ok (.iload_n 1, 1) := by decide +kernel
theorem dX8_bound_13 : decode cX8_bound 13 = .ok (.iload_n 2, 1) := by decide +kernel
theorem dX8_bound_14 : decode cX8_bound 14 = .ok (.invokevirtual 155, 3) := by decide +kernel
theorem dX8_bound_17 : decode cX8_bound 17 = .ok (.ireturn, 1) := by decide +kernel
set_option maxRecDepth 20000 in
theorem ggX8_life_X8_needPlayer : GoodIn wsX8_life wsX8_needPlayer := goodIn_ca (goodIn_r _ [7, 8, 9] (by decide +kernel) (by decide +kernel)) (goodIn_sub (fun _ h => List.mem_cons_of_mem _ (List.mem_append_right _ h)) (by decide +kernel))
set_option maxRecDepth 20000 in
theorem gX8_life_X8_needPlayer : GoodIn wsX8_life (va_wsS RX8 102 yX8_needPlayer wsX8_needPlayer) := goodIn_app (goodIn_of _ (by decide +kernel)) ggX8_life_X8_needPlayer
theorem dX8_life_0 : decode cX8_life 0 = .ok (.iload_n 1, 1) := by decide +kernel
theorem dX8_life_1 : decode cX8_life 1 = .ok (.invokestatic 102, 3) := by decide +kernel
theorem dX8_life_4 : decode cX8_life 4 = .ok (.iload_n 2, 1) := by decide +kernel
theorem dX8_life_5 : decode cX8_life 5 = .ok (.ifCond .eq 15, 3) := by decide +kernel
theorem dX8_life_8 : decode cX8_life 8 = .ok (.aload_n 0, 1) := by decide +kernel
theorem dX8_life_9 : decode cX8_life 9 = .ok (.getfield 26, 3) := by decide +kernel
theorem dX8_life_12 : decode cX8_life 12 = .ok (.getfield 159, 3) := by decide +kernel
theorem dX8_life_15 : decode cX8_life 15 = .ok (.iload_n 1, 1) := by decide +kernel
theorem dX8_life_16 : decode cX8_life 16 = .ok (.iaload, 1) := by decide +kernel
theorem dX8_life_17 : decode cX8_life 17 = .ok (.goto 12, 3) := by decide +kernel
theorem dX8_life_20 : decode cX8_life 20 = .ok (.aload_n 0, 1) := by decide +kernel
theorem dX8_life_21 : decode cX8_life 21 = .ok (.getfield 26, 3) := by decide +kernel
theorem dX8_life_24 : decode cX8_life 24 = .ok (.getfield 162, 3) := by decide +kernel
theorem dX8_life_27 : decode cX8_life 27 = .ok (.iload_n 1, 1) := by decide +kernel
theorem dX8_life_28 : decode cX8_life 28 = .ok (.iaload, 1) := by decide +kernel
theorem dX8_life_29 : decode cX8_life 29 = .ok (.ireturn, 1) := by decide +kernel
set_option maxRecDepth 20000 in
theorem ggX8_lifeAnew_X8_needPlayer : GoodIn wsX8_lifeAnew wsX8_needPlayer := goodIn_ca (goodIn_r _ [5, 6, 7] (by decide +kernel) (by decide +kernel)) (goodIn_sub (fun _ h => List.mem_cons_of_mem _ (List.mem_append_right _ h)) (by decide +kernel))
set_option maxRecDepth 20000 in
theorem gX8_lifeAnew_X8_needPlayer : GoodIn wsX8_lifeAnew (va_wsS RX8 102 yX8_needPlayer wsX8_needPlayer) := goodIn_app (goodIn_of _ (by decide +kernel)) ggX8_lifeAnew_X8_needPlayer
set_option maxRecDepth 20000 in
theorem ggX8_lifeAnew_X1_findLife : GoodIn wsX8_lifeAnew wsX1_findLife := goodIn_r _ [12, 13, 14, 15, 16, 17, 18, 19, 20, 21, 22, 23, 24, 25, 26, 27, 28, 29, 30, 31, 32, 33, 34, 35, 36, 37, 38, 39, 40, 41, 42, 43, 44, 45, 46, 47, 48, 49, 50, 51, 52, 53, 54, 55, 56, 57, 58, 59, 60, 61, 62, 63, 64, 65, 66, 67, 77, 78, 79, 80, 81, 82, 83, 84, 85, 86] (by decide +kernel) (by decide +kernel)
set_option maxRecDepth 20000 in
theorem gX8_lifeAnew_X1_findLife : GoodIn wsX8_lifeAnew (wsV RX8 165 RX1 yX1_findLife wsX1_findLife) := goodIn_app (goodIn_of _ (by decide +kernel)) ggX8_lifeAnew_X1_findLife
theorem dX8_lifeAnew_0 : decode cX8_lifeAnew 0 = .ok (.iload_n 1, 1) := by decide +kernel
theorem dX8_lifeAnew_1 : decode cX8_lifeAnew 1 = .ok (.invokestatic 102, 3) := by decide +kernel
theorem dX8_lifeAnew_4 : decode cX8_lifeAnew 4 = .ok (.aload_n 0, 1) := by decide +kernel
theorem dX8_lifeAnew_5 : decode cX8_lifeAnew 5 = .ok (.getfield 40, 3) := by decide +kernel
theorem dX8_lifeAnew_8 : decode cX8_lifeAnew 8 = .ok (.iload_n 1, 1) := by decide +kernel
theorem dX8_lifeAnew_9 : decode cX8_lifeAnew 9 = .ok (.invokevirtual 165, 3) := by decide +kernel
theorem dX8_lifeAnew_12 : decode cX8_lifeAnew 12 = .ok (.ireturn, 1) := by decide +kernel
set_option maxRecDepth 20000 in
theorem ggX8_put_X8_needPlayer : GoodIn wsX8_put wsX8_needPlayer := goodIn_ca (goodIn_r _ [7, 8, 9] (by decide +kernel) (by decide +kernel)) (goodIn_sub (fun _ h => List.mem_cons_of_mem _ (List.mem_append_right _ h)) (by decide +kernel))
set_option maxRecDepth 20000 in
theorem gX8_put_X8_needPlayer : GoodIn wsX8_put (va_wsS RX8 102 yX8_needPlayer wsX8_needPlayer) := goodIn_app (goodIn_of _ (by decide +kernel)) ggX8_put_X8_needPlayer
set_option maxRecDepth 20000 in
theorem ggX8_put_X8_needKind : GoodIn wsX8_put wsX8_needKind := goodIn_ca (goodIn_r _ [13, 8, 9, 14, 15, 40, 41, 42, 43, 44, 45, 46, 47, 48, 49, 50, 51, 52] (by decide +kernel) (by decide +kernel)) (goodIn_sub (fun _ h => List.mem_cons_of_mem _ (List.mem_append_right _ h)) (by decide +kernel))
set_option maxRecDepth 20000 in
theorem gX8_put_X8_needKind : GoodIn wsX8_put (wsV RX8 87 RX8 yX8_needKind wsX8_needKind) := goodIn_app (goodIn_of _ (by decide +kernel)) ggX8_put_X8_needKind
set_option maxRecDepth 20000 in
theorem ggX8_put_X5_isDeckFull : GoodIn wsX8_put wsX5_isDeckFull := goodIn_r _ [20, 21, 53, 54, 55] (by decide +kernel) (by decide +kernel)
set_option maxRecDepth 20000 in
theorem gX8_put_X5_isDeckFull : GoodIn wsX8_put (wsV RX8 168 RX5 yX5_isDeckFull wsX5_isDeckFull) := goodIn_app (goodIn_of _ (by decide +kernel)) ggX8_put_X5_isDeckFull
set_option maxRecDepth 20000 in
theorem ggX8_put_X5_mayTakeMore : GoodIn wsX8_put wsX5_mayTakeMore := goodIn_r _ [25, 26, 27, 28, 29, 19, 30, 31, 32, 33, 34, 35, 53, 54, 55] (by decide +kernel) (by decide +kernel)
set_option maxRecDepth 20000 in
theorem gX8_put_X5_mayTakeMore : GoodIn wsX8_put (wsV RX8 174 RX5 yX5_mayTakeMore wsX5_mayTakeMore) := goodIn_app (goodIn_of _ (by decide +kernel)) ggX8_put_X5_mayTakeMore
set_option maxRecDepth 20000 in
theorem ggX8_put_X5_addToDeck : GoodIn wsX8_put wsX5_addToDeck := goodIn_r _ [39, 26, 21, 53, 54, 55] (by decide +kernel) (by decide +kernel)
set_option maxRecDepth 20000 in
theorem gX8_put_X5_addToDeck : GoodIn wsX8_put (wsV RX8 179 RX5 yX5_addToDeck wsX5_addToDeck) := goodIn_app (goodIn_of _ (by decide +kernel)) ggX8_put_X5_addToDeck
theorem dX8_put_0 : decode cX8_put 0 = .ok (.iload_n 1, 1) := by decide +kernel
theorem dX8_put_1 : decode cX8_put 1 = .ok (.invokestatic 102, 3) := by decide +kernel
theorem dX8_put_4 : decode cX8_put 4 = .ok (.aload_n 0, 1) := by decide +kernel
theorem dX8_put_5 : decode cX8_put 5 = .ok (.iload_n 2, 1) := by decide +kernel
theorem dX8_put_6 : decode cX8_put 6 = .ok (.invokevirtual 87, 3) := by decide +kernel
theorem dX8_put_9 : decode cX8_put 9 = .ok (.aload_n 0, 1) := by decide +kernel
theorem dX8_put_10 : decode cX8_put 10 = .ok (.getfield 19, 3) := by decide +kernel
theorem dX8_put_13 : decode cX8_put 13 = .ok (.iload_n 1, 1) := by decide +kernel
theorem dX8_put_14 : decode cX8_put 14 = .ok (.invokevirtual 168, 3) := by decide +kernel
theorem dX8_put_17 : decode cX8_put 17 = .ok (.ifCond .eq 13, 3) := by decide +kernel
theorem dX8_put_20 : decode cX8_put 20 = .ok (.new 78, 3) := by decide +kernel
theorem dX8_put_23 : decode cX8_put 23 = .ok (.dup, 1) := by decide +kernel
theorem dX8_put_24 : decode cX8_put 24 = .ok (.ldc 172, 2) := by decide +kernel
theorem dX8_put_26 : decode cX8_put 26 = .ok (.invokespecial 82, 3) := by decide +kernel
theorem dX8_put_29 : decode cX8_put 29 = .ok (.athrow, 1) := by decide +kernel
theorem dX8_put_30 : decode cX8_put 30 = .ok (.aload_n 0, 1) := by decide +kernel
theorem dX8_put_31 : decode cX8_put 31 = .ok (.getfield 19, 3) := by decide +kernel
theorem dX8_put_34 : decode cX8_put 34 = .ok (.iload_n 1, 1) := by decide +kernel
theorem dX8_put_35 : decode cX8_put 35 = .ok (.iload_n 2, 1) := by decide +kernel
theorem dX8_put_36 : decode cX8_put 36 = .ok (.invokevirtual 174, 3) := by decide +kernel
theorem dX8_put_39 : decode cX8_put 39 = .ok (.ifCond .ne 13, 3) := by decide +kernel
theorem dX8_put_42 : decode cX8_put 42 = .ok (.new 78, 3) := by decide +kernel
theorem dX8_put_45 : decode cX8_put 45 = .ok (.dup, 1) := by decide +kernel
theorem dX8_put_46 : decode cX8_put 46 = .ok (.ldc 177, 2) := by decide +kernel
theorem dX8_put_48 : decode cX8_put 48 = .ok (.invokespecial 82, 3) := by decide +kernel
theorem dX8_put_51 : decode cX8_put 51 = .ok (.athrow, 1) := by decide +kernel
theorem dX8_put_52 : decode cX8_put 52 = .ok (.aload_n 0, 1) := by decide +kernel
theorem dX8_put_53 : decode cX8_put 53 = .ok (.getfield 19, 3) := by decide +kernel
theorem dX8_put_56 : decode cX8_put 56 = .ok (.iload_n 1, 1) := by decide +kernel
theorem dX8_put_57 : decode cX8_put 57 = .ok (.iload_n 2, 1) := by decide +kernel
theorem dX8_put_58 : decode cX8_put 58 = .ok (.invokevirtual 179, 3) := by decide +kernel
theorem dX8_put_61 : decode cX8_put 61 = .ok (.ireturn, 1) := by decide +kernel
set_option maxRecDepth 20000 in
theorem ggX8_isGood_X8_needPlayer : GoodIn wsX8_isGood wsX8_needPlayer := goodIn_ca (goodIn_r _ [6, 7, 8] (by decide +kernel) (by decide +kernel)) (goodIn_sub (fun _ h => List.mem_cons_of_mem _ (List.mem_append_left _ (List.mem_append_right _ h))) (by decide +kernel))
set_option maxRecDepth 20000 in
theorem gX8_isGood_X8_needPlayer : GoodIn wsX8_isGood (va_wsS RX8 102 yX8_needPlayer wsX8_needPlayer) := goodIn_app (goodIn_of _ (by decide +kernel)) ggX8_isGood_X8_needPlayer
set_option maxRecDepth 20000 in
theorem ggX8_isGood_X8_needDay : GoodIn wsX8_isGood wsX8_needDay := goodIn_ca (goodIn_r _ [12, 13, 14, 15, 38, 39, 40, 41, 42, 43, 44, 45, 46] (by decide +kernel) (by decide +kernel)) (goodIn_sub (fun _ h => List.mem_cons_of_mem _ (List.mem_append_right _ h)) (by decide +kernel))
set_option maxRecDepth 20000 in
theorem gX8_isGood_X8_needDay : GoodIn wsX8_isGood (wsV RX8 91 RX8 yX8_needDay wsX8_needDay) := goodIn_app (goodIn_of _ (by decide +kernel)) ggX8_isGood_X8_needDay
set_option maxRecDepth 20000 in
theorem ggX8_isGood_X5_isDeckGood : GoodIn wsX8_isGood wsX5_isDeckGood := goodIn_r _ [20, 21, 22, 23, 24, 25, 19, 26, 27, 28, 29, 30, 31, 32, 33, 34, 35, 36, 37, 47, 48, 49, 50, 51, 52, 53] (by decide +kernel) (by decide +kernel)
set_option maxRecDepth 20000 in
theorem gX8_isGood_X5_isDeckGood : GoodIn wsX8_isGood (wsV RX8 182 RX5 yX5_isDeckGood wsX5_isDeckGood) := goodIn_app (goodIn_of _ (by decide +kernel)) ggX8_isGood_X5_isDeckGood
theorem dX8_isGood_0 : decode cX8_isGood 0 = .ok (.iload_n 1, 1) := by decide +kernel
theorem dX8_isGood_1 : decode cX8_isGood 1 = .ok (.invokestatic 102, 3) := by decide +kernel
theorem dX8_isGood_4 : decode cX8_isGood 4 = .ok (.aload_n 0, 1) := by decide +kernel
theorem dX8_isGood_5 : decode cX8_isGood 5 = .ok (.iload_n 2, 1) := by decide +kernel
theorem dX8_isGood_6 : decode cX8_isGood 6 = .ok (.invokevirtual 91, 3) := by decide +kernel
theorem dX8_isGood_9 : decode cX8_isGood 9 = .ok (.aload_n 0, 1) := by decide +kernel
theorem dX8_isGood_10 : decode cX8_isGood 10 = .ok (.getfield 19, 3) := by decide +kernel
theorem dX8_isGood_13 : decode cX8_isGood 13 = .ok (.iload_n 1, 1) := by decide +kernel
theorem dX8_isGood_14 : decode cX8_isGood 14 = .ok (.aload_n 0, 1) := by decide +kernel
theorem dX8_isGood_15 : decode cX8_isGood 15 = .ok (.getfield 10, 3) := by decide +kernel
theorem dX8_isGood_18 : decode cX8_isGood 18 = .ok (.iload_n 2, 1) := by decide +kernel
theorem dX8_isGood_19 : decode cX8_isGood 19 = .ok (.invokevirtual 182, 3) := by decide +kernel
theorem dX8_isGood_22 : decode cX8_isGood 22 = .ok (.ireturn, 1) := by decide +kernel
set_option maxRecDepth 20000 in
theorem ggX8_draft_X0_begin : GoodIn wsX8_draft wsX0_begin := goodIn_r _ [13, 14, 15, 16, 17, 18, 19, 33, 34, 35, 36, 37] (by decide +kernel) (by decide +kernel)
set_option maxRecDepth 20000 in
theorem gX8_draft_X0_begin : GoodIn wsX8_draft (wsV RX8 195 RX0 yX0_begin wsX0_begin) := goodIn_app (goodIn_of _ (by decide +kernel)) ggX8_draft_X0_begin
theorem dX8_draft_0 : decode cX8_draft 0 = .ok (.iload_n 1, 1) := by decide +kernel
theorem dX8_draft_1 : decode cX8_draft 1 = .ok (.iconst 2, 1) := by decide +kernel
theorem dX8_draft_2 : decode cX8_draft 2 = .ok (.if_icmp .lt 9, 3) := by decide +kernel
theorem dX8_draft_5 : decode cX8_draft 5 = .ok (.iload_n 1, 1) := by decide +kernel
theorem dX8_draft_6 : decode cX8_draft 6 = .ok (.bipush 6, 2) := by decide +kernel
theorem dX8_draft_8 : decode cX8_draft 8 = .ok (.if_icmp .le 13, 3) := by decide +kernel
theorem dX8_draft_11 : decode cX8_draft 11 = .ok (.new 65, 3) := by decide +kernel
theorem dX8_draft_14 : decode cX8_draft 14 = .ok (.dup, 1) := by decide +kernel
theorem dX8_draft_15 : decode cX8_draft 15 = .ok (.ldc 186, 2) := by decide +kernel
theorem dX8_draft_17 : decode cX8_draft 17 = .ok (.invokespecial 69, 3) := by decide +kernel
theorem dX8_draft_20 : decode cX8_draft 20 = .ok (.athrow, 1) := by decide +kernel
theorem dX8_draft_21 : decode cX8_draft 21 = .ok (.iload_n 2, 1) := by decide +kernel
theorem dX8_draft_22 : decode cX8_draft 22 = .ok (.iconst 3, 1) := by decide +kernel
theorem dX8_draft_23 : decode cX8_draft 23 = .ok (.if_icmp .lt 9, 3) := by decide +kernel
theorem dX8_draft_26 : decode cX8_draft 26 = .ok (.iload_n 2, 1) := by decide +kernel
theorem dX8_draft_27 : decode cX8_draft 27 = .ok (.bipush 6, 2) := by decide +kernel
theorem dX8_draft_29 : decode cX8_draft 29 = .ok (.if_icmp .le 13, 3) := by decide +kernel
theorem dX8_draft_32 : decode cX8_draft 32 = .ok (.new 65, 3) := by decide +kernel
theorem dX8_draft_35 : decode cX8_draft 35 = .ok (.dup, 1) := by decide +kernel
theorem dX8_draft_36 : decode cX8_draft 36 = .ok (.ldc 188, 2) := by decide +kernel
theorem dX8_draft_38 : decode cX8_draft 38 = .ok (.invokespecial 69, 3) := by decide +kernel
theorem dX8_draft_41 : decode cX8_draft 41 = .ok (.athrow, 1) := by decide +kernel
theorem dX8_draft_42 : decode cX8_draft 42 = .ok (.iload_n 3, 1) := by decide +kernel
theorem dX8_draft_43 : decode cX8_draft 43 = .ok (.ifCond .lt 9, 3) := by decide +kernel
theorem dX8_draft_46 : decode cX8_draft 46 = .ok (.iload_n 3, 1) := by decide +kernel
theorem dX8_draft_47 : decode cX8_draft 47 = .ok (.ldc 190, 2) := by decide +kernel
theorem dX8_draft_49 : decode cX8_draft 49 = .ok (.if_icmp .lt 13, 3) := by decide +kernel
theorem dX8_draft_52 : decode cX8_draft 52 = .ok (.new 65, 3) := by decide +kernel
theorem dX8_draft_55 : decode cX8_draft 55 = .ok (.dup, 1) := by decide +kernel
theorem dX8_draft_56 : decode cX8_draft 56 = .ok (.ldc 191, 2) := by decide +kernel
theorem dX8_draft_58 : decode cX8_draft 58 = .ok (.invokespecial 69, 3) := by decide +kernel
theorem dX8_draft_61 : decode cX8_draft 61 = .ok (.athrow, 1) := by decide +kernel
theorem dX8_draft_62 : decode cX8_draft 62 = .ok (.aload_n 0, 1) := by decide +kernel
theorem dX8_draft_63 : decode cX8_draft 63 = .ok (.getfield 10, 3) := by decide +kernel
theorem dX8_draft_66 : decode cX8_draft 66 = .ok (.getfield 74, 3) := by decide +kernel
theorem dX8_draft_69 : decode cX8_draft 69 = .ok (.ifCond .ne 13, 3) := by decide +kernel
theorem dX8_draft_72 : decode cX8_draft 72 = .ok (.new 78, 3) := by decide +kernel
theorem dX8_draft_75 : decode cX8_draft 75 = .ok (.dup, 1) := by decide +kernel
theorem dX8_draft_76 : decode cX8_draft 76 = .ok (.ldc 193, 2) := by decide +kernel
theorem dX8_draft_78 : decode cX8_draft 78 = .ok (.invokespecial 82, 3) := by decide +kernel
theorem dX8_draft_81 : decode cX8_draft 81 = .ok (.athrow, 1) := by decide +kernel
theorem dX8_draft_82 : decode cX8_draft 82 = .ok (.aload_n 0, 1) := by decide +kernel
theorem dX8_draft_83 : decode cX8_draft 83 = .ok (.getfield 47, 3) := by decide +kernel
theorem dX8_draft_86 : decode cX8_draft 86 = .ok (.iload_n 1, 1) := by decide +kernel
theorem dX8_draft_87 : decode cX8_draft 87 = .ok (.iload_n 2, 1) := by decide +kernel
theorem dX8_draft_88 : decode cX8_draft 88 = .ok (.iload_n 3, 1) := by decide +kernel
theorem dX8_draft_89 : decode cX8_draft 89 = .ok (.aload_n 0, 1) := by decide +kernel
theorem dX8_draft_90 : decode cX8_draft 90 = .ok (.getfield 10, 3) := by decide +kernel
theorem dX8_draft_93 : decode cX8_draft 93 = .ok (.getfield 74, 3) := by decide +kernel
theorem dX8_draft_96 : decode cX8_draft 96 = .ok (.invokevirtual 195, 3) := by decide +kernel
theorem dX8_draft_99 : decode cX8_draft 99 = .ok (.return_, 1) := by decide +kernel
set_option maxRecDepth 20000 in
theorem ggX8_offered_X0_countOffered : GoodIn wsX8_offered wsX0_countOffered := goodIn_r _ [8, 9, 10, 35, 36, 37, 38, 39] (by decide +kernel) (by decide +kernel)
set_option maxRecDepth 20000 in
theorem gX8_offered_X0_countOffered : GoodIn wsX8_offered (wsV RX8 203 RX0 yX0_countOffered wsX0_countOffered) := goodIn_app (goodIn_of _ (by decide +kernel)) ggX8_offered_X0_countOffered
set_option maxRecDepth 20000 in
theorem ggX8_offered_X0_kindAt : GoodIn wsX8_offered wsX0_kindAt := goodIn_r _ [14, 15, 16, 17, 18, 7, 19, 20, 21, 10, 22, 23, 24, 25, 35, 36, 37, 38, 39] (by decide +kernel) (by decide +kernel)
set_option maxRecDepth 20000 in
theorem gX8_offered_X0_kindAt : GoodIn wsX8_offered (wsV RX8 207 RX0 yX0_kindAt wsX0_kindAt) := goodIn_app (goodIn_of _ (by decide +kernel)) ggX8_offered_X0_kindAt
theorem dX8_offered_0 : decode cX8_offered 0 = .ok (.iload_n 1, 1) := by decide +kernel
theorem dX8_offered_1 : decode cX8_offered 1 = .ok (.ifCond .ge 13, 3) := by decide +kernel
theorem dX8_offered_4 : decode cX8_offered 4 = .ok (.new 198, 3) := by decide +kernel
theorem dX8_offered_7 : decode cX8_offered 7 = .ok (.dup, 1) := by decide +kernel
theorem dX8_offered_8 : decode cX8_offered 8 = .ok (.ldc 200, 2) := by decide +kernel
theorem dX8_offered_10 : decode cX8_offered 10 = .ok (.invokespecial 202, 3) := by decide +kernel
theorem dX8_offered_13 : decode cX8_offered 13 = .ok (.athrow, 1) := by decide +kernel
theorem dX8_offered_14 : decode cX8_offered 14 = .ok (.iload_n 1, 1) := by decide +kernel
theorem dX8_offered_15 : decode cX8_offered 15 = .ok (.aload_n 0, 1) := by decide +kernel
theorem dX8_offered_16 : decode cX8_offered 16 = .ok (.getfield 47, 3) := by decide +kernel
theorem dX8_offered_19 : decode cX8_offered 19 = .ok (.invokevirtual 203, 3) := by decide +kernel
theorem dX8_offered_22 : decode cX8_offered 22 = .ok (.if_icmp .ge 14, 3) := by decide +kernel
theorem dX8_offered_25 : decode cX8_offered 25 = .ok (.aload_n 0, 1) := by decide +kernel
theorem dX8_offered_26 : decode cX8_offered 26 = .ok (.getfield 47, 3) := by decide +kernel
theorem dX8_offered_29 : decode cX8_offered 29 = .ok (.iload_n 1, 1) := by decide +kernel
theorem dX8_offered_30 : decode cX8_offered 30 = .ok (.invokevirtual 207, 3) := by decide +kernel
theorem dX8_offered_33 : decode cX8_offered 33 = .ok (.goto 4, 3) := by decide +kernel
theorem dX8_offered_36 : decode cX8_offered 36 = .ok (.iconst (-1), 1) := by decide +kernel
theorem dX8_offered_37 : decode cX8_offered 37 = .ok (.ireturn, 1) := by decide +kernel
set_option maxRecDepth 20000 in
theorem ggX8_pick_X0_goesOn : GoodIn wsX8_pick wsX0_goesOn := goodIn_r _ [13, 14, 15, 52, 53, 54, 55, 56] (by decide +kernel) (by decide +kernel)
set_option maxRecDepth 20000 in
theorem gX8_pick_X0_goesOn : GoodIn wsX8_pick (wsV RX8 210 RX0 yX0_goesOn wsX0_goesOn) := goodIn_app (goodIn_of _ (by decide +kernel)) ggX8_pick_X0_goesOn
set_option maxRecDepth 20000 in
theorem ggX8_pick_X0_countOffered : GoodIn wsX8_pick wsX0_countOffered := goodIn_r _ [19, 15, 14, 52, 53, 54, 55, 56] (by decide +kernel) (by decide +kernel)
set_option maxRecDepth 20000 in
theorem gX8_pick_X0_countOffered : GoodIn wsX8_pick (wsV RX8 203 RX0 yX0_countOffered wsX0_countOffered) := goodIn_app (goodIn_of _ (by decide +kernel)) ggX8_pick_X0_countOffered
set_option maxRecDepth 20000 in
theorem ggX8_pick_X0_kindAt : GoodIn wsX8_pick wsX0_kindAt := goodIn_r _ [23, 24, 25, 26, 27, 12, 28, 29, 30, 14, 31, 32, 33, 34, 52, 53, 54, 55, 56] (by decide +kernel) (by decide +kernel)
set_option maxRecDepth 20000 in
theorem gX8_pick_X0_kindAt : GoodIn wsX8_pick (wsV RX8 207 RX0 yX0_kindAt wsX0_kindAt) := goodIn_app (goodIn_of _ (by decide +kernel)) ggX8_pick_X0_kindAt
set_option maxRecDepth 20000 in
theorem ggX8_pick_X0_takeOut : GoodIn wsX8_pick wsX0_takeOut := goodIn_r _ [38, 24, 30, 29, 14, 25, 26, 27, 12, 28, 31, 32, 33, 34, 39, 17, 18, 19, 15, 52, 53, 54, 55, 56] (by decide +kernel) (by decide +kernel)
set_option maxRecDepth 20000 in
theorem gX8_pick_X0_takeOut : GoodIn wsX8_pick (wsV RX8 220 RX0 yX0_takeOut wsX0_takeOut) := goodIn_app (goodIn_of _ (by decide +kernel)) ggX8_pick_X0_takeOut
theorem dX8_pick_0 : decode cX8_pick 0 = .ok (.iload_n 1, 1) := by decide +kernel
theorem dX8_pick_1 : decode cX8_pick 1 = .ok (.ifCond .ge 13, 3) := by decide +kernel
theorem dX8_pick_4 : decode cX8_pick 4 = .ok (.new 198, 3) := by decide +kernel
theorem dX8_pick_7 : decode cX8_pick 7 = .ok (.dup, 1) := by decide +kernel
theorem dX8_pick_8 : decode cX8_pick 8 = .ok (.ldc 200, 2) := by decide +kernel
theorem dX8_pick_10 : decode cX8_pick 10 = .ok (.invokespecial 202, 3) := by decide +kernel
theorem dX8_pick_13 : decode cX8_pick 13 = .ok (.athrow, 1) := by decide +kernel
theorem dX8_pick_14 : decode cX8_pick 14 = .ok (.aload_n 0, 1) := by decide +kernel
theorem dX8_pick_15 : decode cX8_pick 15 = .ok (.getfield 47, 3) := by decide +kernel
theorem dX8_pick_18 : decode cX8_pick 18 = .ok (.invokevirtual 210, 3) := by decide +kernel
theorem dX8_pick_21 : decode cX8_pick 21 = .ok (.ifCond .ne 13, 3) := by decide +kernel
theorem dX8_pick_24 : decode cX8_pick 24 = .ok (.new 78, 3) := by decide +kernel
theorem dX8_pick_27 : decode cX8_pick 27 = .ok (.dup, 1) := by decide +kernel
theorem dX8_pick_28 : decode cX8_pick 28 = .ok (.ldc 213, 2) := by decide +kernel
theorem dX8_pick_30 : decode cX8_pick 30 = .ok (.invokespecial 82, 3) := by decide +kernel
theorem dX8_pick_33 : decode cX8_pick 33 = .ok (.athrow, 1) := by decide +kernel
theorem dX8_pick_34 : decode cX8_pick 34 = .ok (.iload_n 1, 1) := by decide +kernel
theorem dX8_pick_35 : decode cX8_pick 35 = .ok (.aload_n 0, 1) := by decide +kernel
theorem dX8_pick_36 : decode cX8_pick 36 = .ok (.getfield 47, 3) := by decide +kernel
theorem dX8_pick_39 : decode cX8_pick 39 = .ok (.invokevirtual 203, 3) := by decide +kernel
theorem dX8_pick_42 : decode cX8_pick 42 = .ok (.if_icmp .lt 13, 3) := by decide +kernel
theorem dX8_pick_45 : decode cX8_pick 45 = .ok (.new 198, 3) := by decide +kernel
theorem dX8_pick_48 : decode cX8_pick 48 = .ok (.dup, 1) := by decide +kernel
theorem dX8_pick_49 : decode cX8_pick 49 = .ok (.ldc 215, 2) := by decide +kernel
theorem dX8_pick_51 : decode cX8_pick 51 = .ok (.invokespecial 202, 3) := by decide +kernel
theorem dX8_pick_54 : decode cX8_pick 54 = .ok (.athrow, 1) := by decide +kernel
theorem dX8_pick_55 : decode cX8_pick 55 = .ok (.aload_n 0, 1) := by decide +kernel
theorem dX8_pick_56 : decode cX8_pick 56 = .ok (.getfield 19, 3) := by decide +kernel
theorem dX8_pick_59 : decode cX8_pick 59 = .ok (.getfield 107, 3) := by decide +kernel
theorem dX8_pick_62 : decode cX8_pick 62 = .ok (.aload_n 0, 1) := by decide +kernel
theorem dX8_pick_63 : decode cX8_pick 63 = .ok (.getfield 47, 3) := by decide +kernel
theorem dX8_pick_66 : decode cX8_pick 66 = .ok (.getfield 217, 3) := by decide +kernel
theorem dX8_pick_69 : decode cX8_pick 69 = .ok (.aaload, 1) := by decide +kernel
theorem dX8_pick_70 : decode cX8_pick 70 = .ok (.aload_n 0, 1) := by decide +kernel
theorem dX8_pick_71 : decode cX8_pick 71 = .ok (.getfield 47, 3) := by decide +kernel
theorem dX8_pick_74 : decode cX8_pick 74 = .ok (.iload_n 1, 1) := by decide +kernel
theorem dX8_pick_75 : decode cX8_pick 75 = .ok (.invokevirtual 207, 3) := by decide +kernel
theorem dX8_pick_78 : decode cX8_pick 78 = .ok (.dup2, 1) := by decide +kernel
theorem dX8_pick_79 : decode cX8_pick 79 = .ok (.iaload, 1) := by decide +kernel
theorem dX8_pick_80 : decode cX8_pick 80 = .ok (.iconst 1, 1) := by decide +kernel
theorem dX8_pick_81 : decode cX8_pick 81 = .ok (.iadd, 1) := by decide +kernel
theorem dX8_pick_82 : decode cX8_pick 82 = .ok (.iastore, 1) := by decide +kernel
theorem dX8_pick_83 : decode cX8_pick 83 = .ok (.aload_n 0, 1) := by decide +kernel
theorem dX8_pick_84 : decode cX8_pick 84 = .ok (.getfield 47, 3) := by decide +kernel
theorem dX8_pick_87 : decode cX8_pick 87 = .ok (.iload_n 1, 1) := by decide +kernel
theorem dX8_pick_88 : decode cX8_pick 88 = .ok (.invokevirtual 220, 3) := by decide +kernel
theorem dX8_pick_91 : decode cX8_pick 91 = .ok (.aload_n 0, 1) := by decide +kernel
theorem dX8_pick_92 : decode cX8_pick 92 = .ok (.getfield 47, 3) := by decide +kernel
theorem dX8_pick_95 : decode cX8_pick 95 = .ok (.invokevirtual 210, 3) := by decide +kernel
theorem dX8_pick_98 : decode cX8_pick 98 = .ok (.ifCond .eq 13, 3) := by decide +kernel
theorem dX8_pick_101 : decode cX8_pick 101 = .ok (.aload_n 0, 1) := by decide +kernel
theorem dX8_pick_102 : decode cX8_pick 102 = .ok (.getfield 47, 3) := by decide +kernel
theorem dX8_pick_105 : decode cX8_pick 105 = .ok (.getfield 217, 3) := by decide +kernel
theorem dX8_pick_108 : decode cX8_pick 108 = .ok (.goto 4, 3) := by decide +kernel
theorem dX8_pick_111 : decode cX8_pick 111 = .ok (.iconst (-1), 1) := by decide +kernel
theorem dX8_pick_112 : decode cX8_pick 112 = .ok (.ireturn, 1) := by decide +kernel
set_option maxRecDepth 20000 in
theorem ggX8_wish_X8_needPlayer : GoodIn wsX8_wish wsX8_needPlayer := goodIn_ca (goodIn_r _ [7, 8, 9] (by decide +kernel) (by decide +kernel)) (goodIn_sub (fun _ h => List.mem_cons_of_mem _ (List.mem_append_right _ h)) (by decide +kernel))
set_option maxRecDepth 20000 in
theorem gX8_wish_X8_needPlayer : GoodIn wsX8_wish (va_wsS RX8 102 yX8_needPlayer wsX8_needPlayer) := goodIn_app (goodIn_of _ (by decide +kernel)) ggX8_wish_X8_needPlayer
set_option maxRecDepth 20000 in
theorem ggX8_wish_X8_needKind : GoodIn wsX8_wish wsX8_needKind := goodIn_ca (goodIn_r _ [13, 8, 9, 14, 15, 23, 24, 25, 26, 27, 28, 29, 30, 31, 32, 33, 34, 35] (by decide +kernel) (by decide +kernel)) (goodIn_sub (fun _ h => List.mem_cons_of_mem _ (List.mem_append_right _ h)) (by decide +kernel))
set_option maxRecDepth 20000 in
theorem gX8_wish_X8_needKind : GoodIn wsX8_wish (wsV RX8 87 RX8 yX8_needKind wsX8_needKind) := goodIn_app (goodIn_of _ (by decide +kernel)) ggX8_wish_X8_needKind
set_option maxRecDepth 20000 in
theorem ggX8_wish_X7_tell : GoodIn wsX8_wish wsX7_tell := goodIn_r _ [20, 21, 22, 36, 37, 38, 39] (by decide +kernel) (by decide +kernel)
set_option maxRecDepth 20000 in
theorem gX8_wish_X7_tell : GoodIn wsX8_wish (wsV RX8 225 RX7 yX7_tell wsX7_tell) := goodIn_app (goodIn_of _ (by decide +kernel)) ggX8_wish_X7_tell
theorem dX8_wish_0 : decode cX8_wish 0 = .ok (.iload_n 1, 1) := by decide +kernel
theorem dX8_wish_1 : decode cX8_wish 1 = .ok (.invokestatic 102, 3) := by decide +kernel
theorem dX8_wish_4 : decode cX8_wish 4 = .ok (.aload_n 0, 1) := by decide +kernel
theorem dX8_wish_5 : decode cX8_wish 5 = .ok (.iload_n 2, 1) := by decide +kernel
theorem dX8_wish_6 : decode cX8_wish 6 = .ok (.invokevirtual 87, 3) := by decide +kernel
theorem dX8_wish_9 : decode cX8_wish 9 = .ok (.aload_n 0, 1) := by decide +kernel
theorem dX8_wish_10 : decode cX8_wish 10 = .ok (.iload_n 3, 1) := by decide +kernel
theorem dX8_wish_11 : decode cX8_wish 11 = .ok (.invokevirtual 87, 3) := by decide +kernel
theorem dX8_wish_14 : decode cX8_wish 14 = .ok (.iload_n 2, 1) := by decide +kernel
theorem dX8_wish_15 : decode cX8_wish 15 = .ok (.iload_n 3, 1) := by decide +kernel
theorem dX8_wish_16 : decode cX8_wish 16 = .ok (.if_icmp .ne 13, 3) := by decide +kernel
theorem dX8_wish_19 : decode cX8_wish 19 = .ok (.new 65, 3) := by decide +kernel
theorem dX8_wish_22 : decode cX8_wish 22 = .ok (.dup, 1) := by decide +kernel
theorem dX8_wish_23 : decode cX8_wish 23 = .ok (.ldc 223, 2) := by decide +kernel
theorem dX8_wish_25 : decode cX8_wish 25 = .ok (.invokespecial 69, 3) := by decide +kernel
theorem dX8_wish_28 : decode cX8_wish 28 = .ok (.athrow, 1) := by decide +kernel
theorem dX8_wish_29 : decode cX8_wish 29 = .ok (.aload_n 0, 1) := by decide +kernel
theorem dX8_wish_30 : decode cX8_wish 30 = .ok (.getfield 54, 3) := by decide +kernel
theorem dX8_wish_33 : decode cX8_wish 33 = .ok (.iload_n 1, 1) := by decide +kernel
theorem dX8_wish_34 : decode cX8_wish 34 = .ok (.iload_n 2, 1) := by decide +kernel
theorem dX8_wish_35 : decode cX8_wish 35 = .ok (.iload_n 3, 1) := by decide +kernel
theorem dX8_wish_36 : decode cX8_wish 36 = .ok (.invokevirtual 225, 3) := by decide +kernel
theorem dX8_wish_39 : decode cX8_wish 39 = .ok (.return_, 1) := by decide +kernel
set_option maxRecDepth 20000 in
theorem ggX8_ring_X7_findBest : GoodIn wsX8_ring wsX7_findBest := goodIn_r _ [11, 12, 13, 14, 10, 15, 16, 17, 18, 19, 20, 21, 22, 23, 24, 25, 26, 27, 28, 29, 30, 31, 32, 33, 34, 35, 48, 49, 50, 51] (by decide +kernel) (by decide +kernel)
set_option maxRecDepth 20000 in
theorem gX8_ring_X7_findBest : GoodIn wsX8_ring (wsV RX8 231 RX7 yX7_findBest wsX7_findBest) := goodIn_app (goodIn_of _ (by decide +kernel)) ggX8_ring_X7_findBest
theorem dX8_ring_0 : decode cX8_ring 0 = .ok (.iload_n 1, 1) := by decide +kernel
theorem dX8_ring_1 : decode cX8_ring 1 = .ok (.ifCond .lt 9, 3) := by decide +kernel
theorem dX8_ring_4 : decode cX8_ring 4 = .ok (.iload_n 1, 1) := by decide +kernel
theorem dX8_ring_5 : decode cX8_ring 5 = .ok (.bipush 6, 2) := by decide +kernel
theorem dX8_ring_7 : decode cX8_ring 7 = .ok (.if_icmp .lt 13, 3) := by decide +kernel
theorem dX8_ring_10 : decode cX8_ring 10 = .ok (.new 198, 3) := by decide +kernel
theorem dX8_ring_13 : decode cX8_ring 13 = .ok (.dup, 1) := by decide +kernel
theorem dX8_ring_14 : decode cX8_ring 14 = .ok (.ldc 229, 2) := by decide +kernel
theorem dX8_ring_16 : decode cX8_ring 16 = .ok (.invokespecial 202, 3) := by decide +kernel
theorem dX8_ring_19 : decode cX8_ring 19 = .ok (.athrow, 1) := by decide +kernel
theorem dX8_ring_20 : decode cX8_ring 20 = .ok (.aload_n 0, 1) := by decide +kernel
theorem dX8_ring_21 : decode cX8_ring 21 = .ok (.getfield 54, 3) := by decide +kernel
theorem dX8_ring_24 : decode cX8_ring 24 = .ok (.aload_n 0, 1) := by decide +kernel
theorem dX8_ring_25 : decode cX8_ring 25 = .ok (.getfield 19, 3) := by decide +kernel
theorem dX8_ring_28 : decode cX8_ring 28 = .ok (.getfield 107, 3) := by decide +kernel
theorem dX8_ring_31 : decode cX8_ring 31 = .ok (.invokevirtual 231, 3) := by decide +kernel
theorem dX8_ring_34 : decode cX8_ring 34 = .ok (.istore_n 2, 1) := by decide +kernel
theorem dX8_ring_35 : decode cX8_ring 35 = .ok (.iload_n 1, 1) := by decide +kernel
theorem dX8_ring_36 : decode cX8_ring 36 = .ok (.iload_n 2, 1) := by decide +kernel
theorem dX8_ring_37 : decode cX8_ring 37 = .ok (.if_icmp .ge 15, 3) := by decide +kernel
theorem dX8_ring_40 : decode cX8_ring 40 = .ok (.aload_n 0, 1) := by decide +kernel
theorem dX8_ring_41 : decode cX8_ring 41 = .ok (.getfield 54, 3) := by decide +kernel
theorem dX8_ring_44 : decode cX8_ring 44 = .ok (.getfield 235, 3) := by decide +kernel
theorem dX8_ring_47 : decode cX8_ring 47 = .ok (.iload_n 1, 1) := by decide +kernel
theorem dX8_ring_48 : decode cX8_ring 48 = .ok (.iaload, 1) := by decide +kernel
theorem dX8_ring_49 : decode cX8_ring 49 = .ok (.goto 4, 3) := by decide +kernel
theorem dX8_ring_52 : decode cX8_ring 52 = .ok (.iconst (-1), 1) := by decide +kernel
theorem dX8_ring_53 : decode cX8_ring 53 = .ok (.ireturn, 1) := by decide +kernel
set_option maxRecDepth 20000 in
theorem ggX8_swap_X7_findBest : GoodIn wsX8_swap wsX7_findBest := goodIn_r _ [8, 9, 10, 11, 7, 12, 13, 14, 15, 16, 17, 18, 19, 20, 21, 22, 23, 24, 25, 26, 27, 28, 29, 30, 31, 32, 53, 54, 55, 56] (by decide +kernel) (by decide +kernel)
set_option maxRecDepth 20000 in
theorem gX8_swap_X7_findBest : GoodIn wsX8_swap (wsV RX8 231 RX7 yX7_findBest wsX7_findBest) := goodIn_app (goodIn_of _ (by decide +kernel)) ggX8_swap_X7_findBest
set_option maxRecDepth 20000 in
theorem ggX8_swap_X7_fulfil : GoodIn wsX8_swap wsX7_fulfil := goodIn_r _ [36, 23, 14, 28, 37, 38, 39, 7, 40, 53, 54, 55, 56] (by decide +kernel) (by decide +kernel)
set_option maxRecDepth 20000 in
theorem gX8_swap_X7_fulfil : GoodIn wsX8_swap (wsV RX8 238 RX7 yX7_fulfil wsX7_fulfil) := goodIn_app (goodIn_of _ (by decide +kernel)) ggX8_swap_X7_fulfil
theorem dX8_swap_0 : decode cX8_swap 0 = .ok (.aload_n 0, 1) := by decide +kernel
theorem dX8_swap_1 : decode cX8_swap 1 = .ok (.getfield 54, 3) := by decide +kernel
theorem dX8_swap_4 : decode cX8_swap 4 = .ok (.aload_n 0, 1) := by decide +kernel
theorem dX8_swap_5 : decode cX8_swap 5 = .ok (.getfield 19, 3) := by decide +kernel
theorem dX8_swap_8 : decode cX8_swap 8 = .ok (.getfield 107, 3) := by decide +kernel
theorem dX8_swap_11 : decode cX8_swap 11 = .ok (.invokevirtual 231, 3) := by decide +kernel
theorem dX8_swap_14 : decode cX8_swap 14 = .ok (.istore_n 1, 1) := by decide +kernel
theorem dX8_swap_15 : decode cX8_swap 15 = .ok (.aload_n 0, 1) := by decide +kernel
theorem dX8_swap_16 : decode cX8_swap 16 = .ok (.getfield 54, 3) := by decide +kernel
theorem dX8_swap_19 : decode cX8_swap 19 = .ok (.iload_n 1, 1) := by decide +kernel
theorem dX8_swap_20 : decode cX8_swap 20 = .ok (.aload_n 0, 1) := by decide +kernel
theorem dX8_swap_21 : decode cX8_swap 21 = .ok (.getfield 19, 3) := by decide +kernel
theorem dX8_swap_24 : decode cX8_swap 24 = .ok (.getfield 107, 3) := by decide +kernel
theorem dX8_swap_27 : decode cX8_swap 27 = .ok (.invokevirtual 238, 3) := by decide +kernel
theorem dX8_swap_30 : decode cX8_swap 30 = .ok (.iload_n 1, 1) := by decide +kernel
theorem dX8_swap_31 : decode cX8_swap 31 = .ok (.ireturn, 1) := by decide +kernel
set_option maxRecDepth 20000 in
theorem ggX8_pair_X8_needPlayer : GoodIn wsX8_pair wsX8_needPlayer := goodIn_ca (goodIn_r _ [7, 8, 9] (by decide +kernel) (by decide +kernel)) (goodIn_sub (fun _ h => List.mem_cons_of_mem _ (List.mem_append_right _ h)) (by decide +kernel))
set_option maxRecDepth 20000 in
theorem gX8_pair_X8_needPlayer : GoodIn wsX8_pair (va_wsS RX8 102 yX8_needPlayer wsX8_needPlayer) := goodIn_app (goodIn_of _ (by decide +kernel)) ggX8_pair_X8_needPlayer
set_option maxRecDepth 20000 in
theorem ggX8_pair_X3_findOther : GoodIn wsX8_pair wsX3_findOther := goodIn_r _ [14, 15, 16, 17, 18, 19, 13, 20, 21, 22, 23, 24, 25, 26, 27, 28, 29, 30, 31, 32, 33, 34, 35, 45, 46, 47, 48, 49] (by decide +kernel) (by decide +kernel)
set_option maxRecDepth 20000 in
theorem gX8_pair_X3_findOther : GoodIn wsX8_pair (wsV RX8 244 RX3 yX3_findOther wsX3_findOther) := goodIn_app (goodIn_of _ (by decide +kernel)) ggX8_pair_X3_findOther
theorem dX8_pair_0 : decode cX8_pair 0 = .ok (.iload_n 1, 1) := by decide +kernel
theorem dX8_pair_1 : decode cX8_pair 1 = .ok (.invokestatic 102, 3) := by decide +kernel
theorem dX8_pair_4 : decode cX8_pair 4 = .ok (.iload_n 2, 1) := by decide +kernel
theorem dX8_pair_5 : decode cX8_pair 5 = .ok (.ifCond .lt 9, 3) := by decide +kernel
theorem dX8_pair_8 : decode cX8_pair 8 = .ok (.iload_n 2, 1) := by decide +kernel
theorem dX8_pair_9 : decode cX8_pair 9 = .ok (.bipush 64, 2) := by decide +kernel
theorem dX8_pair_11 : decode cX8_pair 11 = .ok (.if_icmp .lt 13, 3) := by decide +kernel
theorem dX8_pair_14 : decode cX8_pair 14 = .ok (.new 65, 3) := by decide +kernel
theorem dX8_pair_17 : decode cX8_pair 17 = .ok (.dup, 1) := by decide +kernel
theorem dX8_pair_18 : decode cX8_pair 18 = .ok (.ldc 242, 2) := by decide +kernel
theorem dX8_pair_20 : decode cX8_pair 20 = .ok (.invokespecial 69, 3) := by decide +kernel
theorem dX8_pair_23 : decode cX8_pair 23 = .ok (.athrow, 1) := by decide +kernel
theorem dX8_pair_24 : decode cX8_pair 24 = .ok (.aload_n 0, 1) := by decide +kernel
theorem dX8_pair_25 : decode cX8_pair 25 = .ok (.getfield 61, 3) := by decide +kernel
theorem dX8_pair_28 : decode cX8_pair 28 = .ok (.iload_n 1, 1) := by decide +kernel
theorem dX8_pair_29 : decode cX8_pair 29 = .ok (.iload_n 2, 1) := by decide +kernel
theorem dX8_pair_30 : decode cX8_pair 30 = .ok (.invokevirtual 244, 3) := by decide +kernel
theorem dX8_pair_33 : decode cX8_pair 33 = .ok (.ireturn, 1) := by decide +kernel
set_option maxRecDepth 20000 in
theorem ggX8_result_X8_needPlayer : GoodIn wsX8_result wsX8_needPlayer := goodIn_ca (goodIn_r _ [7, 8, 9] (by decide +kernel) (by decide +kernel)) (goodIn_sub (fun _ h => List.mem_cons_of_mem _ (List.mem_append_right _ h)) (by decide +kernel))
set_option maxRecDepth 20000 in
theorem gX8_result_X8_needPlayer : GoodIn wsX8_result (va_wsS RX8 102 yX8_needPlayer wsX8_needPlayer) := goodIn_app (goodIn_of _ (by decide +kernel)) ggX8_result_X8_needPlayer
set_option maxRecDepth 20000 in
theorem ggX8_result_X3_tell : GoodIn wsX8_result wsX3_tell := goodIn_r _ [14, 15, 16, 17, 18, 19, 20, 21, 22, 23, 33, 34, 35, 36, 37] (by decide +kernel) (by decide +kernel)
set_option maxRecDepth 20000 in
theorem gX8_result_X3_tell : GoodIn wsX8_result (wsV RX8 249 RX3 yX3_tell wsX3_tell) := goodIn_app (goodIn_of _ (by decide +kernel)) ggX8_result_X3_tell
theorem dX8_result_0 : decode cX8_result 0 = .ok (.iload_n 1, 1) := by decide +kernel
theorem dX8_result_1 : decode cX8_result 1 = .ok (.invokestatic 102, 3) := by decide +kernel
theorem dX8_result_4 : decode cX8_result 4 = .ok (.iload_n 2, 1) := by decide +kernel
theorem dX8_result_5 : decode cX8_result 5 = .ok (.invokestatic 102, 3) := by decide +kernel
theorem dX8_result_8 : decode cX8_result 8 = .ok (.iload_n 1, 1) := by decide +kernel
theorem dX8_result_9 : decode cX8_result 9 = .ok (.iload_n 2, 1) := by decide +kernel
theorem dX8_result_10 : decode cX8_result 10 = .ok (.if_icmp .ne 13, 3) := by decide +kernel
theorem dX8_result_13 : decode cX8_result 13 = .ok (.new 65, 3) := by decide +kernel
theorem dX8_result_16 : decode cX8_result 16 = .ok (.dup, 1) := by decide +kernel
theorem dX8_result_17 : decode cX8_result 17 = .ok (.ldc 247, 2) := by decide +kernel
theorem dX8_result_19 : decode cX8_result 19 = .ok (.invokespecial 69, 3) := by decide +kernel
theorem dX8_result_22 : decode cX8_result 22 = .ok (.athrow, 1) := by decide +kernel
theorem dX8_result_23 : decode cX8_result 23 = .ok (.aload_n 0, 1) := by decide +kernel
theorem dX8_result_24 : decode cX8_result 24 = .ok (.getfield 61, 3) := by decide +kernel
theorem dX8_result_27 : decode cX8_result 27 = .ok (.iload_n 1, 1) := by decide +kernel
theorem dX8_result_28 : decode cX8_result 28 = .ok (.iload_n 2, 1) := by decide +kernel
theorem dX8_result_29 : decode cX8_result 29 = .ok (.invokevirtual 249, 3) := by decide +kernel
theorem dX8_result_32 : decode cX8_result 32 = .ok (.ireturn, 1) := by decide +kernel
set_option maxRecDepth 20000 in
theorem ggX8_has_X8_needPlayer : GoodIn wsX8_has wsX8_needPlayer := goodIn_ca (goodIn_r _ [6, 7, 8] (by decide +kernel) (by decide +kernel)) (goodIn_sub (fun _ h => List.mem_cons_of_mem _ (List.mem_append_right _ h)) (by decide +kernel))
set_option maxRecDepth 20000 in
theorem gX8_has_X8_needPlayer : GoodIn wsX8_has (va_wsS RX8 102 yX8_needPlayer wsX8_needPlayer) := goodIn_app (goodIn_of _ (by decide +kernel)) ggX8_has_X8_needPlayer
set_option maxRecDepth 20000 in
theorem ggX8_has_X8_needKind : GoodIn wsX8_has wsX8_needKind := goodIn_ca (goodIn_r _ [12, 7, 8, 13, 14, 15, 16, 17, 18, 19, 20, 21, 22, 23, 27, 28, 29, 30] (by decide +kernel) (by decide +kernel)) (goodIn_sub (fun _ h => List.mem_cons_of_mem _ (List.mem_append_right _ h)) (by decide +kernel))
set_option maxRecDepth 20000 in
theorem gX8_has_X8_needKind : GoodIn wsX8_has (wsV RX8 87 RX8 yX8_needKind wsX8_needKind) := goodIn_app (goodIn_of _ (by decide +kernel)) ggX8_has_X8_needKind
theorem dX8_has_0 : decode cX8_has 0 = .ok (.iload_n 1, 1) := by decide +kernel
theorem dX8_has_1 : decode cX8_has 1 = .ok (.invokestatic 102, 3) := by decide +kernel
theorem dX8_has_4 : decode cX8_has 4 = .ok (.aload_n 0, 1) := by decide +kernel
theorem dX8_has_5 : decode cX8_has 5 = .ok (.iload_n 2, 1) := by decide +kernel
theorem dX8_has_6 : decode cX8_has 6 = .ok (.invokevirtual 87, 3) := by decide +kernel
theorem dX8_has_9 : decode cX8_has 9 = .ok (.aload_n 0, 1) := by decide +kernel
theorem dX8_has_10 : decode cX8_has 10 = .ok (.getfield 19, 3) := by decide +kernel
theorem dX8_has_13 : decode cX8_has 13 = .ok (.getfield 107, 3) := by decide +kernel
theorem dX8_has_16 : decode cX8_has 16 = .ok (.iload_n 1, 1) := by decide +kernel
theorem dX8_has_17 : decode cX8_has 17 = .ok (.aaload, 1) := by decide +kernel
theorem dX8_has_18 : decode cX8_has 18 = .ok (.iload_n 2, 1) := by decide +kernel
theorem dX8_has_19 : decode cX8_has 19 = .ok (.iaload, 1) := by decide +kernel
theorem dX8_has_20 : decode cX8_has 20 = .ok (.ireturn, 1) := by decide +kernel
set_option maxRecDepth 20000 in
theorem ggX8_strength_X8_needPlayer : GoodIn wsX8_strength wsX8_needPlayer := goodIn_ca (goodIn_r _ [6, 7, 8] (by decide +kernel) (by decide +kernel)) (goodIn_sub (fun _ h => List.mem_cons_of_mem _ (List.mem_append_right _ h)) (by decide +kernel))
set_option maxRecDepth 20000 in
theorem gX8_strength_X8_needPlayer : GoodIn wsX8_strength (va_wsS RX8 102 yX8_needPlayer wsX8_needPlayer) := goodIn_app (goodIn_of _ (by decide +kernel)) ggX8_strength_X8_needPlayer
theorem dX8_strength_0 : decode cX8_strength 0 = .ok (.iload_n 1, 1) := by decide +kernel
theorem dX8_strength_1 : decode cX8_strength 1 = .ok (.invokestatic 102, 3) := by decide +kernel
theorem dX8_strength_4 : decode cX8_strength 4 = .ok (.aload_n 0, 1) := by decide +kernel
theorem dX8_strength_5 : decode cX8_strength 5 = .ok (.getfield 61, 3) := by decide +kernel
theorem dX8_strength_8 : decode cX8_strength 8 = .ok (.getfield 251, 3) := by decide +kernel
theorem dX8_strength_11 : decode cX8_strength 11 = .ok (.iload_n 1, 1) := by decide +kernel
theorem dX8_strength_12 : decode cX8_strength 12 = .ok (.iaload, 1) := by decide +kernel
theorem dX8_strength_13 : decode cX8_strength 13 = .ok (.ireturn, 1) := by decide +kernel
theorem dX8_stacked_0 : decode cX8_stacked 0 = .ok (.aload_n 0, 1) := by decide +kernel
theorem dX8_stacked_1 : decode cX8_stacked 1 = .ok (.getfield 26, 3) := by decide +kernel
theorem dX8_stacked_4 : decode cX8_stacked 4 = .ok (.getfield 126, 3) := by decide +kernel
theorem dX8_stacked_7 : decode cX8_stacked 7 = .ok (.ireturn, 1) := by decide +kernel
theorem dX8_needPlayer_0 : decode cX8_needPlayer 0 = .ok (.iload_n 0, 1) := by decide +kernel
theorem dX8_needPlayer_1 : decode cX8_needPlayer 1 = .ok (.ifCond .lt 9, 3) := by decide +kernel
theorem dX8_needPlayer_4 : decode cX8_needPlayer 4 = .ok (.iload_n 0, 1) := by decide +kernel
theorem dX8_needPlayer_5 : decode cX8_needPlayer 5 = .ok (.bipush 6, 2) := by decide +kernel
theorem dX8_needPlayer_7 : decode cX8_needPlayer 7 = .ok (.if_icmp .lt 13, 3) := by decide +kernel
theorem dX8_needPlayer_10 : decode cX8_needPlayer 10 = .ok (.new 198, 3) := by decide +kernel
theorem dX8_needPlayer_13 : decode cX8_needPlayer 13 = .ok (.dup, 1) := by decide +kernel
theorem dX8_needPlayer_14 : decode cX8_needPlayer 14 = .ok (.ldc 254, 2) := by decide +kernel
theorem dX8_needPlayer_16 : decode cX8_needPlayer 16 = .ok (.invokespecial 202, 3) := by decide +kernel
theorem dX8_needPlayer_19 : decode cX8_needPlayer 19 = .ok (.athrow, 1) := by decide +kernel
theorem dX8_needPlayer_20 : decode cX8_needPlayer 20 = .ok (.return_, 1) := by decide +kernel
theorem dX8_needKind_0 : decode cX8_needKind 0 = .ok (.iload_n 1, 1) := by decide +kernel
theorem dX8_needKind_1 : decode cX8_needKind 1 = .ok (.ifCond .lt 14, 3) := by decide +kernel
theorem dX8_needKind_4 : decode cX8_needKind 4 = .ok (.iload_n 1, 1) := by decide +kernel
theorem dX8_needKind_5 : decode cX8_needKind 5 = .ok (.aload_n 0, 1) := by decide +kernel
theorem dX8_needKind_6 : decode cX8_needKind 6 = .ok (.getfield 10, 3) := by decide +kernel
theorem dX8_needKind_9 : decode cX8_needKind 9 = .ok (.getfield 74, 3) := by decide +kernel
theorem dX8_needKind_12 : decode cX8_needKind 12 = .ok (.if_icmp .lt 14, 3) := by decide +kernel
theorem dX8_needKind_15 : decode cX8_needKind 15 = .ok (.new 198, 3) := by decide +kernel
theorem dX8_needKind_18 : decode cX8_needKind 18 = .ok (.dup, 1) := by decide +kernel
theorem dX8_needKind_19 : decode cX8_needKind 19 = .ok (.ldc_w 256, 3) := by decide +kernel
theorem dX8_needKind_22 : decode cX8_needKind 22 = .ok (.invokespecial 202, 3) := by decide +kernel
theorem dX8_needKind_25 : decode cX8_needKind 25 = .ok (.athrow, 1) := by decide +kernel
theorem dX8_needKind_26 : decode cX8_needKind 26 = .ok (.return_, 1) := by decide +kernel
theorem dX8_needDay_0 : decode cX8_needDay 0 = .ok (.iload_n 1, 1) := by decide +kernel
theorem dX8_needDay_1 : decode cX8_needDay 1 = .ok (.aload_n 0, 1) := by decide +kernel
theorem dX8_needDay_2 : decode cX8_needDay 2 = .ok (.getfield 113, 3) := by decide +kernel
theorem dX8_needDay_5 : decode cX8_needDay 5 = .ok (.if_icmp .lt 10, 3) := by decide +kernel
theorem dX8_needDay_8 : decode cX8_needDay 8 = .ok (.iload_n 1, 1) := by decide +kernel
theorem dX8_needDay_9 : decode cX8_needDay 9 = .ok (.sipush 1000, 3) := by decide +kernel
theorem dX8_needDay_12 : decode cX8_needDay 12 = .ok (.if_icmp .le 14, 3) := by decide +kernel
theorem dX8_needDay_15 : decode cX8_needDay 15 = .ok (.new 65, 3) := by decide +kernel
theorem dX8_needDay_18 : decode cX8_needDay 18 = .ok (.dup, 1) := by decide +kernel
theorem dX8_needDay_19 : decode cX8_needDay 19 = .ok (.ldc_w 258, 3) := by decide +kernel
theorem dX8_needDay_22 : decode cX8_needDay 22 = .ok (.invokespecial 69, 3) := by decide +kernel
theorem dX8_needDay_25 : decode cX8_needDay 25 = .ok (.athrow, 1) := by decide +kernel
theorem dX8_needDay_26 : decode cX8_needDay 26 = .ok (.return_, 1) := by decide +kernel
theorem dJ9_floorMod_7cf53_0 : decode cJ9_floorMod_7cf53 0 = .ok (.iload_n 0, 1) := by decide +kernel
theorem dJ9_floorMod_7cf53_1 : decode cJ9_floorMod_7cf53 1 = .ok (.iload_n 1, 1) := by decide +kernel
theorem dJ9_floorMod_7cf53_2 : decode cJ9_floorMod_7cf53 2 = .ok (.irem, 1) := by decide +kernel
theorem dJ9_floorMod_7cf53_3 : decode cJ9_floorMod_7cf53 3 = .ok (.istore_n 2, 1) := by decide +kernel
theorem dJ9_floorMod_7cf53_4 : decode cJ9_floorMod_7cf53 4 = .ok (.iload_n 0, 1) := by decide +kernel
theorem dJ9_floorMod_7cf53_5 : decode cJ9_floorMod_7cf53 5 = .ok (.iload_n 1, 1) := by decide +kernel
theorem dJ9_floorMod_7cf53_6 : decode cJ9_floorMod_7cf53 6 = .ok (.ixor, 1) := by decide +kernel
theorem dJ9_floorMod_7cf53_7 : decode cJ9_floorMod_7cf53 7 = .ok (.ifCond .ge 11, 3) := by decide +kernel
theorem dJ9_floorMod_7cf53_10 : decode cJ9_floorMod_7cf53 10 = .ok (.iload_n 2, 1) := by decide +kernel
theorem dJ9_floorMod_7cf53_11 : decode cJ9_floorMod_7cf53 11 = .ok (.ifCond .eq 7, 3) := by decide +kernel
theorem dJ9_floorMod_7cf53_14 : decode cJ9_floorMod_7cf53 14 = .ok (.iload_n 2, 1) := by decide +kernel
theorem dJ9_floorMod_7cf53_15 : decode cJ9_floorMod_7cf53 15 = .ok (.iload_n 1, 1) := by decide +kernel
theorem dJ9_floorMod_7cf53_16 : decode cJ9_floorMod_7cf53 16 = .ok (.iadd, 1) := by decide +kernel
theorem dJ9_floorMod_7cf53_17 : decode cJ9_floorMod_7cf53 17 = .ok (.ireturn, 1) := by decide +kernel
theorem dJ9_floorMod_7cf53_18 : decode cJ9_floorMod_7cf53 18 = .ok (.iload_n 2, 1) := by decide +kernel
theorem dJ9_floorMod_7cf53_19 : decode cJ9_floorMod_7cf53 19 = .ok (.ireturn, 1) := by decide +kernel
theorem dJ9_max_7cf53_0 : decode cJ9_max_7cf53 0 = .ok (.iload_n 0, 1) := by decide +kernel
theorem dJ9_max_7cf53_1 : decode cJ9_max_7cf53 1 = .ok (.iload_n 1, 1) := by decide +kernel
theorem dJ9_max_7cf53_2 : decode cJ9_max_7cf53 2 = .ok (.if_icmp .lt 7, 3) := by decide +kernel
theorem dJ9_max_7cf53_5 : decode cJ9_max_7cf53 5 = .ok (.iload_n 0, 1) := by decide +kernel
theorem dJ9_max_7cf53_6 : decode cJ9_max_7cf53 6 = .ok (.goto 4, 3) := by decide +kernel
theorem dJ9_max_7cf53_9 : decode cJ9_max_7cf53 9 = .ok (.iload_n 1, 1) := by decide +kernel
theorem dJ9_max_7cf53_10 : decode cJ9_max_7cf53 10 = .ok (.ireturn, 1) := by decide +kernel
theorem dJ9_min_7cf53_0 : decode cJ9_min_7cf53 0 = .ok (.iload_n 0, 1) := by decide +kernel
theorem dJ9_min_7cf53_1 : decode cJ9_min_7cf53 1 = .ok (.iload_n 1, 1) := by decide +kernel
theorem dJ9_min_7cf53_2 : decode cJ9_min_7cf53 2 = .ok (.if_icmp .gt 7, 3) := by decide +kernel
theorem dJ9_min_7cf53_5 : decode cJ9_min_7cf53 5 = .ok (.iload_n 0, 1) := by decide +kernel
theorem dJ9_min_7cf53_6 : decode cJ9_min_7cf53 6 = .ok (.goto 4, 3) := by decide +kernel
theorem dJ9_min_7cf53_9 : decode cJ9_min_7cf53 9 = .ok (.iload_n 1, 1) := by decide +kernel
theorem dJ9_min_7cf53_10 : decode cJ9_min_7cf53 10 = .ok (.ireturn, 1) := by decide +kernel
