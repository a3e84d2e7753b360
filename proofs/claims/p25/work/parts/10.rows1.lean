theorem dX0_init_0 : decode cX0_init 0 = .ok (.aload_n 0, 1) := by decide +kernel
theorem dX0_init_1 : decode cX0_init 1 = .ok (.invokespecial 3, 3) := by decide +kernel
theorem dX0_init_4 : decode cX0_init 4 = .ok (.aload_n 0, 1) := by decide +kernel
theorem dX0_init_5 : decode cX0_init 5 = .ok (.bipush 6, 2) := by decide +kernel
theorem dX0_init_7 : decode cX0_init 7 = .ok (.bipush 6, 2) := by decide +kernel
theorem dX0_init_9 : decode cX0_init 9 = .ok (.multianewarray 11 2, 4) := by decide +kernel
theorem dX0_init_13 : decode cX0_init 13 = .ok (.putfield 13, 3) := by decide +kernel
theorem dX0_init_16 : decode cX0_init 16 = .ok (.return_, 1) := by decide +kernel
theorem dX0_begin_0 : decode cX0_begin 0 = .ok (.iload 4, 2) := by decide +kernel
theorem dX0_begin_2 : decode cX0_begin 2 = .ok (.iconst 1, 1) := by decide +kernel
theorem dX0_begin_3 : decode cX0_begin 3 = .ok (.if_icmp .ge 4, 3) := by decide +kernel
theorem dX0_begin_6 : decode cX0_begin 6 = .ok (.return_, 1) := by decide +kernel
theorem dX0_begin_7 : decode cX0_begin 7 = .ok (.iload_n 3, 1) := by decide +kernel
theorem dX0_begin_8 : decode cX0_begin 8 = .ok (.istore 5, 2) := by decide +kernel
theorem dX0_begin_10 : decode cX0_begin 10 = .ok (.iconst 0, 1) := by decide +kernel
theorem dX0_begin_11 : decode cX0_begin 11 = .ok (.istore 6, 2) := by decide +kernel
theorem dX0_begin_13 : decode cX0_begin 13 = .ok (.iload 6, 2) := by decide +kernel
theorem dX0_begin_15 : decode cX0_begin 15 = .ok (.iload_n 1, 1) := by decide +kernel
theorem dX0_begin_16 : decode cX0_begin 16 = .ok (.if_icmp .ge 52, 3) := by decide +kernel
theorem dX0_begin_19 : decode cX0_begin 19 = .ok (.iconst 0, 1) := by decide +kernel
theorem dX0_begin_20 : decode cX0_begin 20 = .ok (.istore 7, 2) := by decide +kernel
theorem dX0_begin_22 : decode cX0_begin 22 = .ok (.iload 7, 2) := by decide +kernel
theorem dX0_begin_24 : decode cX0_begin 24 = .ok (.iload_n 2, 1) := by decide +kernel
theorem dX0_begin_25 : decode cX0_begin 25 = .ok (.if_icmp .ge 37, 3) := by decide +kernel
theorem dX0_begin_28 : decode cX0_begin 28 = .ok (.bipush 75, 2) := by decide +kernel
theorem dX0_begin_30 : decode cX0_begin 30 = .ok (.iload 5, 2) := by decide +kernel
theorem dX0_begin_32 : decode cX0_begin 32 = .ok (.imul, 1) := by decide +kernel
theorem dX0_begin_33 : decode cX0_begin 33 = .ok (.bipush 74, 2) := by decide +kernel
theorem dX0_begin_35 : decode cX0_begin 35 = .ok (.iadd, 1) := by decide +kernel
theorem dX0_begin_36 : decode cX0_begin 36 = .ok (.ldc 16, 2) := by decide +kernel
theorem dX0_begin_38 : decode cX0_begin 38 = .ok (.irem, 1) := by decide +kernel
theorem dX0_begin_39 : decode cX0_begin 39 = .ok (.istore 5, 2) := by decide +kernel
theorem dX0_begin_41 : decode cX0_begin 41 = .ok (.aload_n 0, 1) := by decide +kernel
theorem dX0_begin_42 : decode cX0_begin 42 = .ok (.getfield 13, 3) := by decide +kernel
theorem dX0_begin_45 : decode cX0_begin 45 = .ok (.iload 6, 2) := by decide +kernel
theorem dX0_begin_47 : decode cX0_begin 47 = .ok (.aaload, 1) := by decide +kernel
theorem dX0_begin_48 : decode cX0_begin 48 = .ok (.iload 7, 2) := by decide +kernel
theorem dX0_begin_50 : decode cX0_begin 50 = .ok (.iload 5, 2) := by decide +kernel
theorem dX0_begin_52 : decode cX0_begin 52 = .ok (.iload 4, 2) := by decide +kernel
theorem dX0_begin_54 : decode cX0_begin 54 = .ok (.irem, 1) := by decide +kernel
theorem dX0_begin_55 : decode cX0_begin 55 = .ok (.iastore, 1) := by decide +kernel
theorem dX0_begin_56 : decode cX0_begin 56 = .ok (.iinc 7 1, 3) := by decide +kernel
theorem dX0_begin_59 : decode cX0_begin 59 = .ok (.goto (-37), 3) := by decide +kernel
theorem dX0_begin_62 : decode cX0_begin 62 = .ok (.iinc 6 1, 3) := by decide +kernel
theorem dX0_begin_65 : decode cX0_begin 65 = .ok (.goto (-52), 3) := by decide +kernel
theorem dX0_begin_68 : decode cX0_begin 68 = .ok (.aload_n 0, 1) := by decide +kernel
theorem dX0_begin_69 : decode cX0_begin 69 = .ok (.iload_n 1, 1) := by decide +kernel
theorem dX0_begin_70 : decode cX0_begin 70 = .ok (.putfield 17, 3) := by decide +kernel
theorem dX0_begin_73 : decode cX0_begin 73 = .ok (.aload_n 0, 1) := by decide +kernel
theorem dX0_begin_74 : decode cX0_begin 74 = .ok (.iload_n 2, 1) := by decide +kernel
theorem dX0_begin_75 : decode cX0_begin 75 = .ok (.putfield 21, 3) := by decide +kernel
theorem dX0_begin_78 : decode cX0_begin 78 = .ok (.aload_n 0, 1) := by decide +kernel
theorem dX0_begin_79 : decode cX0_begin 79 = .ok (.iconst 0, 1) := by decide +kernel
theorem dX0_begin_80 : decode cX0_begin 80 = .ok (.putfield 24, 3) := by decide +kernel
theorem dX0_begin_83 : decode cX0_begin 83 = .ok (.aload_n 0, 1) := by decide +kernel
theorem dX0_begin_84 : decode cX0_begin 84 = .ok (.iconst 0, 1) := by decide +kernel
theorem dX0_begin_85 : decode cX0_begin 85 = .ok (.putfield 27, 3) := by decide +kernel
theorem dX0_begin_88 : decode cX0_begin 88 = .ok (.return_, 1) := by decide +kernel
theorem dX0_goesOn_0 : decode cX0_goesOn 0 = .ok (.aload_n 0, 1) := by decide +kernel
theorem dX0_goesOn_1 : decode cX0_goesOn 1 = .ok (.getfield 24, 3) := by decide +kernel
theorem dX0_goesOn_4 : decode cX0_goesOn 4 = .ok (.aload_n 0, 1) := by decide +kernel
theorem dX0_goesOn_5 : decode cX0_goesOn 5 = .ok (.getfield 21, 3) := by decide +kernel
theorem dX0_goesOn_8 : decode cX0_goesOn 8 = .ok (.if_icmp .ge 7, 3) := by decide +kernel
theorem dX0_goesOn_11 : decode cX0_goesOn 11 = .ok (.iconst 1, 1) := by decide +kernel
theorem dX0_goesOn_12 : decode cX0_goesOn 12 = .ok (.goto 4, 3) := by decide +kernel
theorem dX0_goesOn_15 : decode cX0_goesOn 15 = .ok (.iconst 0, 1) := by decide +kernel
theorem dX0_goesOn_16 : decode cX0_goesOn 16 = .ok (.ireturn, 1) := by decide +kernel
theorem dX0_countOffered_0 : decode cX0_countOffered 0 = .ok (.aload_n 0, 1) := by decide +kernel
theorem dX0_countOffered_1 : decode cX0_countOffered 1 = .ok (.getfield 21, 3) := by decide +kernel
theorem dX0_countOffered_4 : decode cX0_countOffered 4 = .ok (.aload_n 0, 1) := by decide +kernel
theorem dX0_countOffered_5 : decode cX0_countOffered 5 = .ok (.getfield 24, 3) := by decide +kernel
theorem dX0_countOffered_8 : decode cX0_countOffered 8 = .ok (.isub, 1) := by decide +kernel
theorem dX0_countOffered_9 : decode cX0_countOffered 9 = .ok (.ireturn, 1) := by decide +kernel
set_option maxRecDepth 20000 in
theorem ggX0_kindAt_X0_packInTurn : GoodIn wsX0_kindAt wsX0_packInTurn := goodIn_r _ [6, 7, 8, 9, 10, 11, 12, 13, 14, 15, 16, 17, 18] (by decide +kernel) (by decide +kernel)
set_option maxRecDepth 20000 in
theorem gX0_kindAt_X0_packInTurn : GoodIn wsX0_kindAt (wsV RX0 30 RX0 yX0_packInTurn wsX0_packInTurn) := goodIn_app (goodIn_of _ (by decide +kernel)) ggX0_kindAt_X0_packInTurn
theorem dX0_kindAt_0 : decode cX0_kindAt 0 = .ok (.aload_n 0, 1) := by decide +kernel
theorem dX0_kindAt_1 : decode cX0_kindAt 1 = .ok (.getfield 13, 3) := by decide +kernel
theorem dX0_kindAt_4 : decode cX0_kindAt 4 = .ok (.aload_n 0, 1) := by decide +kernel
theorem dX0_kindAt_5 : decode cX0_kindAt 5 = .ok (.invokevirtual 30, 3) := by decide +kernel
theorem dX0_kindAt_8 : decode cX0_kindAt 8 = .ok (.aaload, 1) := by decide +kernel
theorem dX0_kindAt_9 : decode cX0_kindAt 9 = .ok (.iload_n 1, 1) := by decide +kernel
theorem dX0_kindAt_10 : decode cX0_kindAt 10 = .ok (.iaload, 1) := by decide +kernel
theorem dX0_kindAt_11 : decode cX0_kindAt 11 = .ok (.ireturn, 1) := by decide +kernel
set_option maxRecDepth 20000 in
theorem ggX0_takeOut_X0_packInTurn : GoodIn wsX0_takeOut wsX0_packInTurn := goodIn_r _ [9, 3, 2, 4, 10, 11, 12, 13, 19, 20, 21, 22, 23] (by decide +kernel) (by decide +kernel)
set_option maxRecDepth 20000 in
theorem gX0_takeOut_X0_packInTurn : GoodIn wsX0_takeOut (wsV RX0 30 RX0 yX0_packInTurn wsX0_packInTurn) := goodIn_app (goodIn_of _ (by decide +kernel)) ggX0_takeOut_X0_packInTurn
set_option maxRecDepth 20000 in
theorem ggX0_takeOut_X0_countOffered : GoodIn wsX0_takeOut wsX0_countOffered := goodIn_r _ [17, 18, 4, 19, 20, 21, 22, 23] (by decide +kernel) (by decide +kernel)
set_option maxRecDepth 20000 in
theorem gX0_takeOut_X0_countOffered : GoodIn wsX0_takeOut (wsV RX0 34 RX0 yX0_countOffered wsX0_countOffered) := goodIn_app (goodIn_of _ (by decide +kernel)) ggX0_takeOut_X0_countOffered
theorem dX0_takeOut_0 : decode cX0_takeOut 0 = .ok (.aload_n 0, 1) := by decide +kernel
theorem dX0_takeOut_1 : decode cX0_takeOut 1 = .ok (.invokevirtual 30, 3) := by decide +kernel
theorem dX0_takeOut_4 : decode cX0_takeOut 4 = .ok (.istore_n 2, 1) := by decide +kernel
theorem dX0_takeOut_5 : decode cX0_takeOut 5 = .ok (.iload_n 1, 1) := by decide +kernel
theorem dX0_takeOut_6 : decode cX0_takeOut 6 = .ok (.iconst 1, 1) := by decide +kernel
theorem dX0_takeOut_7 : decode cX0_takeOut 7 = .ok (.iadd, 1) := by decide +kernel
theorem dX0_takeOut_8 : decode cX0_takeOut 8 = .ok (.istore_n 3, 1) := by decide +kernel
theorem dX0_takeOut_9 : decode cX0_takeOut 9 = .ok (.iload_n 3, 1) := by decide +kernel
theorem dX0_takeOut_10 : decode cX0_takeOut 10 = .ok (.aload_n 0, 1) := by decide +kernel
theorem dX0_takeOut_11 : decode cX0_takeOut 11 = .ok (.invokevirtual 34, 3) := by decide +kernel
theorem dX0_takeOut_14 : decode cX0_takeOut 14 = .ok (.if_icmp .ge 27, 3) := by decide +kernel
theorem dX0_takeOut_17 : decode cX0_takeOut 17 = .ok (.aload_n 0, 1) := by decide +kernel
theorem dX0_takeOut_18 : decode cX0_takeOut 18 = .ok (.getfield 13, 3) := by decide +kernel
theorem dX0_takeOut_21 : decode cX0_takeOut 21 = .ok (.iload_n 2, 1) := by decide +kernel
theorem dX0_takeOut_22 : decode cX0_takeOut 22 = .ok (.aaload, 1) := by decide +kernel
theorem dX0_takeOut_23 : decode cX0_takeOut 23 = .ok (.iload_n 3, 1) := by decide +kernel
theorem dX0_takeOut_24 : decode cX0_takeOut 24 = .ok (.iconst 1, 1) := by decide +kernel
theorem dX0_takeOut_25 : decode cX0_takeOut 25 = .ok (.isub, 1) := by decide +kernel
theorem dX0_takeOut_26 : decode cX0_takeOut 26 = .ok (.aload_n 0, 1) := by decide +kernel
theorem dX0_takeOut_27 : decode cX0_takeOut 27 = .ok (.getfield 13, 3) := by decide +kernel
theorem dX0_takeOut_30 : decode cX0_takeOut 30 = .ok (.iload_n 2, 1) := by decide +kernel
theorem dX0_takeOut_31 : decode cX0_takeOut 31 = .ok (.aaload, 1) := by decide +kernel
theorem dX0_takeOut_32 : decode cX0_takeOut 32 = .ok (.iload_n 3, 1) := by decide +kernel
theorem dX0_takeOut_33 : decode cX0_takeOut 33 = .ok (.iaload, 1) := by decide +kernel
theorem dX0_takeOut_34 : decode cX0_takeOut 34 = .ok (.iastore, 1) := by decide +kernel
theorem dX0_takeOut_35 : decode cX0_takeOut 35 = .ok (.iinc 3 1, 3) := by decide +kernel
theorem dX0_takeOut_38 : decode cX0_takeOut 38 = .ok (.goto (-29), 3) := by decide +kernel
theorem dX0_takeOut_41 : decode cX0_takeOut 41 = .ok (.aload_n 0, 1) := by decide +kernel
theorem dX0_takeOut_42 : decode cX0_takeOut 42 = .ok (.dup, 1) := by decide +kernel
theorem dX0_takeOut_43 : decode cX0_takeOut 43 = .ok (.getfield 27, 3) := by decide +kernel
theorem dX0_takeOut_46 : decode cX0_takeOut 46 = .ok (.iconst 1, 1) := by decide +kernel
theorem dX0_takeOut_47 : decode cX0_takeOut 47 = .ok (.iadd, 1) := by decide +kernel
theorem dX0_takeOut_48 : decode cX0_takeOut 48 = .ok (.putfield 27, 3) := by decide +kernel
theorem dX0_takeOut_51 : decode cX0_takeOut 51 = .ok (.aload_n 0, 1) := by decide +kernel
theorem dX0_takeOut_52 : decode cX0_takeOut 52 = .ok (.getfield 27, 3) := by decide +kernel
theorem dX0_takeOut_55 : decode cX0_takeOut 55 = .ok (.aload_n 0, 1) := by decide +kernel
theorem dX0_takeOut_56 : decode cX0_takeOut 56 = .ok (.getfield 17, 3) := by decide +kernel
theorem dX0_takeOut_59 : decode cX0_takeOut 59 = .ok (.if_icmp .lt 18, 3) := by decide +kernel
theorem dX0_takeOut_62 : decode cX0_takeOut 62 = .ok (.aload_n 0, 1) := by decide +kernel
theorem dX0_takeOut_63 : decode cX0_takeOut 63 = .ok (.iconst 0, 1) := by decide +kernel
theorem dX0_takeOut_64 : decode cX0_takeOut 64 = .ok (.putfield 27, 3) := by decide +kernel
theorem dX0_takeOut_67 : decode cX0_takeOut 67 = .ok (.aload_n 0, 1) := by decide +kernel
theorem dX0_takeOut_68 : decode cX0_takeOut 68 = .ok (.dup, 1) := by decide +kernel
theorem dX0_takeOut_69 : decode cX0_takeOut 69 = .ok (.getfield 24, 3) := by decide +kernel
theorem dX0_takeOut_72 : decode cX0_takeOut 72 = .ok (.iconst 1, 1) := by decide +kernel
theorem dX0_takeOut_73 : decode cX0_takeOut 73 = .ok (.iadd, 1) := by decide +kernel
theorem dX0_takeOut_74 : decode cX0_takeOut 74 = .ok (.putfield 24, 3) := by decide +kernel
theorem dX0_takeOut_77 : decode cX0_takeOut 77 = .ok (.return_, 1) := by decide +kernel
set_option maxRecDepth 20000 in
theorem ggX0_packInTurn_J9_floorMod_7cf53 : GoodIn wsX0_packInTurn wsJ9_floorMod_7cf53 := goodIn_r _ [7] (by decide +kernel) (by decide +kernel)
set_option maxRecDepth 20000 in
theorem gX0_packInTurn_J9_floorMod_7cf53 : GoodIn wsX0_packInTurn (va_wsS RX0 37 yJ9_floorMod_7cf53 wsJ9_floorMod_7cf53) := goodIn_app (goodIn_of _ (by decide +kernel)) ggX0_packInTurn_J9_floorMod_7cf53
theorem dX0_packInTurn_0 : decode cX0_packInTurn 0 = .ok (.aload_n 0, 1) := by decide +kernel
theorem dX0_packInTurn_1 : decode cX0_packInTurn 1 = .ok (.getfield 17, 3) := by decide +kernel
theorem dX0_packInTurn_4 : decode cX0_packInTurn 4 = .ok (.iconst 1, 1) := by decide +kernel
theorem dX0_packInTurn_5 : decode cX0_packInTurn 5 = .ok (.if_icmp .ge 7, 3) := by decide +kernel
theorem dX0_packInTurn_8 : decode cX0_packInTurn 8 = .ok (.iconst 0, 1) := by decide +kernel
theorem dX0_packInTurn_9 : decode cX0_packInTurn 9 = .ok (.goto 19, 3) := by decide +kernel
theorem dX0_packInTurn_12 : decode cX0_packInTurn 12 = .ok (.aload_n 0, 1) := by decide +kernel
theorem dX0_packInTurn_13 : decode cX0_packInTurn 13 = .ok (.getfield 27, 3) := by decide +kernel
theorem dX0_packInTurn_16 : decode cX0_packInTurn 16 = .ok (.aload_n 0, 1) := by decide +kernel
theorem dX0_packInTurn_17 : decode cX0_packInTurn 17 = .ok (.getfield 24, 3) := by decide +kernel
theorem dX0_packInTurn_20 : decode cX0_packInTurn 20 = .ok (.isub, 1) := by decide +kernel
theorem dX0_packInTurn_21 : decode cX0_packInTurn 21 = .ok (.aload_n 0, 1) := by decide +kernel
theorem dX0_packInTurn_22 : decode cX0_packInTurn 22 = .ok (.getfield 17, 3) := by decide +kernel
theorem dX0_packInTurn_25 : decode cX0_packInTurn 25 = .ok (.invokestatic 37, 3) := by decide +kernel
theorem dX0_packInTurn_28 : decode cX0_packInTurn 28 = .ok (.ireturn, 1) := by decide +kernel
set_option maxRecDepth 20000 in
theorem ggX1_init_X6_init : GoodIn wsX1_init wsX6_init := goodIn_r _ [12, 13, 2, 3, 4, 14, 15, 16, 17, 18, 19, 20, 21, 22, 8, 23, 24, 28, 29, 30, 31, 32, 33, 34] (by decide +kernel) (by decide +kernel)
set_option maxRecDepth 20000 in
theorem gX1_init_X6_init : GoodIn wsX1_init (wsX6_init) := ggX1_init_X6_init
theorem dX1_init_0 : decode cX1_init 0 = .ok (.aload_n 0, 1) := by decide +kernel
theorem dX1_init_1 : decode cX1_init 1 = .ok (.invokespecial 3, 3) := by decide +kernel
theorem dX1_init_4 : decode cX1_init 4 = .ok (.aload_n 0, 1) := by decide +kernel
theorem dX1_init_5 : decode cX1_init 5 = .ok (.sipush 512, 3) := by decide +kernel
theorem dX1_init_8 : decode cX1_init 8 = .ok (.newarray .int, 2) := by decide +kernel
theorem dX1_init_10 : decode cX1_init 10 = .ok (.putfield 9, 3) := by decide +kernel
theorem dX1_init_13 : decode cX1_init 13 = .ok (.aload_n 0, 1) := by decide +kernel
theorem dX1_init_14 : decode cX1_init 14 = .ok (.new 15, 3) := by decide +kernel
theorem dX1_init_17 : decode cX1_init 17 = .ok (.dup, 1) := by decide +kernel
theorem dX1_init_18 : decode cX1_init 18 = .ok (.invokespecial 17, 3) := by decide +kernel
theorem dX1_init_21 : decode cX1_init 21 = .ok (.putfield 18, 3) := by decide +kernel
theorem dX1_init_24 : decode cX1_init 24 = .ok (.return_, 1) := by decide +kernel
set_option maxRecDepth 20000 in
theorem ggX1_addPlay_X1_add : GoodIn wsX1_addPlay wsX1_add := goodIn_r _ [5, 6, 7, 8, 9, 10] (by decide +kernel) (by decide +kernel)
set_option maxRecDepth 20000 in
theorem gX1_addPlay_X1_add : GoodIn wsX1_addPlay (wsV RX1 22 RX1 yX1_add wsX1_add) := goodIn_app (goodIn_of _ (by decide +kernel)) ggX1_addPlay_X1_add
theorem dX1_addPlay_0 : decode cX1_addPlay 0 = .ok (.aload_n 0, 1) := by decide +kernel
theorem dX1_addPlay_1 : decode cX1_addPlay 1 = .ok (.iload_n 1, 1) := by decide +kernel
theorem dX1_addPlay_2 : decode cX1_addPlay 2 = .ok (.bipush 10, 2) := by decide +kernel
theorem dX1_addPlay_4 : decode cX1_addPlay 4 = .ok (.ishl, 1) := by decide +kernel
theorem dX1_addPlay_5 : decode cX1_addPlay 5 = .ok (.iload_n 2, 1) := by decide +kernel
theorem dX1_addPlay_6 : decode cX1_addPlay 6 = .ok (.bipush 6, 2) := by decide +kernel
theorem dX1_addPlay_8 : decode cX1_addPlay 8 = .ok (.ishl, 1) := by decide +kernel
theorem dX1_addPlay_9 : decode cX1_addPlay 9 = .ok (.ior, 1) := by decide +kernel
theorem dX1_addPlay_10 : decode cX1_addPlay 10 = .ok (.iload_n 3, 1) := by decide +kernel
theorem dX1_addPlay_11 : decode cX1_addPlay 11 = .ok (.iconst 3, 1) := by decide +kernel
theorem dX1_addPlay_12 : decode cX1_addPlay 12 = .ok (.ishl, 1) := by decide +kernel
theorem dX1_addPlay_13 : decode cX1_addPlay 13 = .ok (.ior, 1) := by decide +kernel
theorem dX1_addPlay_14 : decode cX1_addPlay 14 = .ok (.iload 4, 2) := by decide +kernel
theorem dX1_addPlay_16 : decode cX1_addPlay 16 = .ok (.ior, 1) := by decide +kernel
theorem dX1_addPlay_17 : decode cX1_addPlay 17 = .ok (.invokevirtual 22, 3) := by decide +kernel
theorem dX1_addPlay_20 : decode cX1_addPlay 20 = .ok (.return_, 1) := by decide +kernel
set_option maxRecDepth 20000 in
theorem ggX1_addDoing_X1_add : GoodIn wsX1_addDoing wsX1_add := goodIn_r _ [5, 6, 7, 8, 9, 10] (by decide +kernel) (by decide +kernel)
set_option maxRecDepth 20000 in
theorem gX1_addDoing_X1_add : GoodIn wsX1_addDoing (wsV RX1 22 RX1 yX1_add wsX1_add) := goodIn_app (goodIn_of _ (by decide +kernel)) ggX1_addDoing_X1_add
theorem dX1_addDoing_0 : decode cX1_addDoing 0 = .ok (.aload_n 0, 1) := by decide +kernel
theorem dX1_addDoing_1 : decode cX1_addDoing 1 = .ok (.iconst (-1), 1) := by decide +kernel
theorem dX1_addDoing_2 : decode cX1_addDoing 2 = .ok (.invokevirtual 22, 3) := by decide +kernel
theorem dX1_addDoing_5 : decode cX1_addDoing 5 = .ok (.return_, 1) := by decide +kernel
theorem dX1_add_0 : decode cX1_add 0 = .ok (.aload_n 0, 1) := by decide +kernel
theorem dX1_add_1 : decode cX1_add 1 = .ok (.getfield 26, 3) := by decide +kernel
theorem dX1_add_4 : decode cX1_add 4 = .ok (.sipush 512, 3) := by decide +kernel
theorem dX1_add_7 : decode cX1_add 7 = .ok (.if_icmp .ge 23, 3) := by decide +kernel
theorem dX1_add_10 : decode cX1_add 10 = .ok (.aload_n 0, 1) := by decide +kernel
theorem dX1_add_11 : decode cX1_add 11 = .ok (.getfield 9, 3) := by decide +kernel
theorem dX1_add_14 : decode cX1_add 14 = .ok (.aload_n 0, 1) := by decide +kernel
theorem dX1_add_15 : decode cX1_add 15 = .ok (.getfield 26, 3) := by decide +kernel
theorem dX1_add_18 : decode cX1_add 18 = .ok (.iload_n 1, 1) := by decide +kernel
theorem dX1_add_19 : decode cX1_add 19 = .ok (.iastore, 1) := by decide +kernel
theorem dX1_add_20 : decode cX1_add 20 = .ok (.aload_n 0, 1) := by decide +kernel
theorem dX1_add_21 : decode cX1_add 21 = .ok (.dup, 1) := by decide +kernel
theorem dX1_add_22 : decode cX1_add 22 = .ok (.getfield 26, 3) := by decide +kernel
theorem dX1_add_25 : decode cX1_add 25 = .ok (.iconst 1, 1) := by decide +kernel
theorem dX1_add_26 : decode cX1_add 26 = .ok (.iadd, 1) := by decide +kernel
theorem dX1_add_27 : decode cX1_add 27 = .ok (.putfield 26, 3) := by decide +kernel
theorem dX1_add_30 : decode cX1_add 30 = .ok (.return_, 1) := by decide +kernel
set_option maxRecDepth 20000 in
theorem ggX1_findLife_X6_clear : GoodIn wsX1_findLife wsX6_clear := goodIn_r _ [9, 10, 11, 12, 59, 60, 61, 62, 63, 64, 65] (by decide +kernel) (by decide +kernel)
set_option maxRecDepth 20000 in
theorem gX1_findLife_X6_clear : GoodIn wsX1_findLife (wsV RX1 30 RX6 yX6_clear wsX6_clear) := goodIn_app (goodIn_of _ (by decide +kernel)) ggX1_findLife_X6_clear
set_option maxRecDepth 20000 in
theorem ggX1_findLife_X6_doTop : GoodIn wsX1_findLife wsX6_doTop := goodIn_r _ [16, 12, 17, 18, 19, 8, 20, 21, 22, 23, 24, 25, 26, 27, 28, 29, 30, 31, 32, 33, 34, 35, 36, 37, 38, 39, 40, 41, 42, 43, 44, 45, 10, 11, 46, 47, 48, 49, 50, 51, 59, 60, 61, 62, 63, 64, 65] (by decide +kernel) (by decide +kernel)
set_option maxRecDepth 20000 in
theorem gX1_findLife_X6_doTop : GoodIn wsX1_findLife (wsV RX1 33 RX6 yX6_doTop wsX6_doTop) := goodIn_app (goodIn_of _ (by decide +kernel)) ggX1_findLife_X6_doTop
set_option maxRecDepth 20000 in
theorem ggX1_findLife_X6_lay : GoodIn wsX1_findLife wsX6_lay := goodIn_r _ [55, 12, 21, 31, 26, 32, 59, 60, 61, 62, 63, 64, 65] (by decide +kernel) (by decide +kernel)
set_option maxRecDepth 20000 in
theorem gX1_findLife_X6_lay : GoodIn wsX1_findLife (wsV RX1 37 RX6 yX6_lay wsX6_lay) := goodIn_app (goodIn_of _ (by decide +kernel)) ggX1_findLife_X6_lay
theorem dX1_findLife_0 : decode cX1_findLife 0 = .ok (.aload_n 0, 1) := by decide +kernel
theorem dX1_findLife_1 : decode cX1_findLife 1 = .ok (.getfield 18, 3) := by decide +kernel
theorem dX1_findLife_4 : decode cX1_findLife 4 = .ok (.invokevirtual 30, 3) := by decide +kernel
theorem dX1_findLife_7 : decode cX1_findLife 7 = .ok (.iconst 0, 1) := by decide +kernel
theorem dX1_findLife_8 : decode cX1_findLife 8 = .ok (.istore_n 2, 1) := by decide +kernel
theorem dX1_findLife_9 : decode cX1_findLife 9 = .ok (.iload_n 2, 1) := by decide +kernel
theorem dX1_findLife_10 : decode cX1_findLife 10 = .ok (.aload_n 0, 1) := by decide +kernel
theorem dX1_findLife_11 : decode cX1_findLife 11 = .ok (.getfield 26, 3) := by decide +kernel
theorem dX1_findLife_14 : decode cX1_findLife 14 = .ok (.if_icmp .ge 60, 3) := by decide +kernel
theorem dX1_findLife_17 : decode cX1_findLife 17 = .ok (.aload_n 0, 1) := by decide +kernel
theorem dX1_findLife_18 : decode cX1_findLife 18 = .ok (.getfield 9, 3) := by decide +kernel
theorem dX1_findLife_21 : decode cX1_findLife 21 = .ok (.iload_n 2, 1) := by decide +kernel
theorem dX1_findLife_22 : decode cX1_findLife 22 = .ok (.iaload, 1) := by decide +kernel
theorem dX1_findLife_23 : decode cX1_findLife 23 = .ok (.istore_n 3, 1) := by decide +kernel
theorem dX1_findLife_24 : decode cX1_findLife 24 = .ok (.iload_n 3, 1) := by decide +kernel
theorem dX1_findLife_25 : decode cX1_findLife 25 = .ok (.iconst (-1), 1) := by decide +kernel
theorem dX1_findLife_26 : decode cX1_findLife 26 = .ok (.if_icmp .ne 14, 3) := by decide +kernel
theorem dX1_findLife_29 : decode cX1_findLife 29 = .ok (.aload_n 0, 1) := by decide +kernel
theorem dX1_findLife_30 : decode cX1_findLife 30 = .ok (.getfield 18, 3) := by decide +kernel
theorem dX1_findLife_33 : decode cX1_findLife 33 = .ok (.invokevirtual 33, 3) := by decide +kernel
theorem dX1_findLife_36 : decode cX1_findLife 36 = .ok (.pop, 1) := by decide +kernel
theorem dX1_findLife_37 : decode cX1_findLife 37 = .ok (.goto 31, 3) := by decide +kernel
theorem dX1_findLife_40 : decode cX1_findLife 40 = .ok (.aload_n 0, 1) := by decide +kernel
theorem dX1_findLife_41 : decode cX1_findLife 41 = .ok (.getfield 18, 3) := by decide +kernel
theorem dX1_findLife_44 : decode cX1_findLife 44 = .ok (.iload_n 3, 1) := by decide +kernel
theorem dX1_findLife_45 : decode cX1_findLife 45 = .ok (.bipush 10, 2) := by decide +kernel
theorem dX1_findLife_47 : decode cX1_findLife 47 = .ok (.ishr, 1) := by decide +kernel
theorem dX1_findLife_48 : decode cX1_findLife 48 = .ok (.iload_n 3, 1) := by decide +kernel
theorem dX1_findLife_49 : decode cX1_findLife 49 = .ok (.bipush 6, 2) := by decide +kernel
theorem dX1_findLife_51 : decode cX1_findLife 51 = .ok (.ishr, 1) := by decide +kernel
theorem dX1_findLife_52 : decode cX1_findLife 52 = .ok (.bipush 15, 2) := by decide +kernel
theorem dX1_findLife_54 : decode cX1_findLife 54 = .ok (.iand, 1) := by decide +kernel
theorem dX1_findLife_55 : decode cX1_findLife 55 = .ok (.iload_n 3, 1) := by decide +kernel
theorem dX1_findLife_56 : decode cX1_findLife 56 = .ok (.iconst 3, 1) := by decide +kernel
theorem dX1_findLife_57 : decode cX1_findLife 57 = .ok (.ishr, 1) := by decide +kernel
theorem dX1_findLife_58 : decode cX1_findLife 58 = .ok (.bipush 7, 2) := by decide +kernel
theorem dX1_findLife_60 : decode cX1_findLife 60 = .ok (.iand, 1) := by decide +kernel
theorem dX1_findLife_61 : decode cX1_findLife 61 = .ok (.iload_n 3, 1) := by decide +kernel
theorem dX1_findLife_62 : decode cX1_findLife 62 = .ok (.bipush 7, 2) := by decide +kernel
theorem dX1_findLife_64 : decode cX1_findLife 64 = .ok (.iand, 1) := by decide +kernel
theorem dX1_findLife_65 : decode cX1_findLife 65 = .ok (.invokevirtual 37, 3) := by decide +kernel
theorem dX1_findLife_68 : decode cX1_findLife 68 = .ok (.iinc 2 1, 3) := by decide +kernel
theorem dX1_findLife_71 : decode cX1_findLife 71 = .ok (.goto (-62), 3) := by decide +kernel
theorem dX1_findLife_74 : decode cX1_findLife 74 = .ok (.aload_n 0, 1) := by decide +kernel
theorem dX1_findLife_75 : decode cX1_findLife 75 = .ok (.getfield 18, 3) := by decide +kernel
theorem dX1_findLife_78 : decode cX1_findLife 78 = .ok (.getfield 41, 3) := by decide +kernel
theorem dX1_findLife_81 : decode cX1_findLife 81 = .ok (.iload_n 1, 1) := by decide +kernel
theorem dX1_findLife_82 : decode cX1_findLife 82 = .ok (.iaload, 1) := by decide +kernel
theorem dX1_findLife_83 : decode cX1_findLife 83 = .ok (.ireturn, 1) := by decide +kernel
theorem dX2_init_0 : decode cX2_init 0 = .ok (.aload_n 0, 1) := by decide +kernel
theorem dX2_init_1 : decode cX2_init 1 = .ok (.invokespecial 3, 3) := by decide +kernel
theorem dX2_init_4 : decode cX2_init 4 = .ok (.aload_n 0, 1) := by decide +kernel
theorem dX2_init_5 : decode cX2_init 5 = .ok (.bipush 20, 2) := by decide +kernel
theorem dX2_init_7 : decode cX2_init 7 = .ok (.newarray .int, 2) := by decide +kernel
theorem dX2_init_9 : decode cX2_init 9 = .ok (.putfield 9, 3) := by decide +kernel
theorem dX2_init_12 : decode cX2_init 12 = .ok (.aload_n 0, 1) := by decide +kernel
theorem dX2_init_13 : decode cX2_init 13 = .ok (.bipush 20, 2) := by decide +kernel
theorem dX2_init_15 : decode cX2_init 15 = .ok (.newarray .int, 2) := by decide +kernel
theorem dX2_init_17 : decode cX2_init 17 = .ok (.putfield 15, 3) := by decide +kernel
theorem dX2_init_20 : decode cX2_init 20 = .ok (.aload_n 0, 1) := by decide +kernel
theorem dX2_init_21 : decode cX2_init 21 = .ok (.bipush 20, 2) := by decide +kernel
theorem dX2_init_23 : decode cX2_init 23 = .ok (.newarray .int, 2) := by decide +kernel
theorem dX2_init_25 : decode cX2_init 25 = .ok (.putfield 18, 3) := by decide +kernel
theorem dX2_init_28 : decode cX2_init 28 = .ok (.return_, 1) := by decide +kernel
theorem dX2_add_0 : decode cX2_add 0 = .ok (.aload_n 0, 1) := by decide +kernel
theorem dX2_add_1 : decode cX2_add 1 = .ok (.getfield 21, 3) := by decide +kernel
theorem dX2_add_4 : decode cX2_add 4 = .ok (.bipush 20, 2) := by decide +kernel
theorem dX2_add_6 : decode cX2_add 6 = .ok (.if_icmp .lt 5, 3) := by decide +kernel
theorem dX2_add_9 : decode cX2_add 9 = .ok (.iconst (-1), 1) := by decide +kernel
theorem dX2_add_10 : decode cX2_add 10 = .ok (.ireturn, 1) := by decide +kernel
theorem dX2_add_11 : decode cX2_add 11 = .ok (.aload_n 0, 1) := by decide +kernel
theorem dX2_add_12 : decode cX2_add 12 = .ok (.getfield 9, 3) := by decide +kernel
theorem dX2_add_15 : decode cX2_add 15 = .ok (.aload_n 0, 1) := by decide +kernel
theorem dX2_add_16 : decode cX2_add 16 = .ok (.getfield 21, 3) := by decide +kernel
theorem dX2_add_19 : decode cX2_add 19 = .ok (.iload_n 1, 1) := by decide +kernel
theorem dX2_add_20 : decode cX2_add 20 = .ok (.iastore, 1) := by decide +kernel
theorem dX2_add_21 : decode cX2_add 21 = .ok (.aload_n 0, 1) := by decide +kernel
theorem dX2_add_22 : decode cX2_add 22 = .ok (.getfield 15, 3) := by decide +kernel
theorem dX2_add_25 : decode cX2_add 25 = .ok (.aload_n 0, 1) := by decide +kernel
theorem dX2_add_26 : decode cX2_add 26 = .ok (.getfield 21, 3) := by decide +kernel
theorem dX2_add_29 : decode cX2_add 29 = .ok (.iload_n 2, 1) := by decide +kernel
theorem dX2_add_30 : decode cX2_add 30 = .ok (.iastore, 1) := by decide +kernel
theorem dX2_add_31 : decode cX2_add 31 = .ok (.aload_n 0, 1) := by decide +kernel
theorem dX2_add_32 : decode cX2_add 32 = .ok (.getfield 18, 3) := by decide +kernel
theorem dX2_add_35 : decode cX2_add 35 = .ok (.aload_n 0, 1) := by decide +kernel
theorem dX2_add_36 : decode cX2_add 36 = .ok (.getfield 21, 3) := by decide +kernel
theorem dX2_add_39 : decode cX2_add 39 = .ok (.sipush 1001, 3) := by decide +kernel
theorem dX2_add_42 : decode cX2_add 42 = .ok (.iastore, 1) := by decide +kernel
theorem dX2_add_43 : decode cX2_add 43 = .ok (.aload_n 0, 1) := by decide +kernel
theorem dX2_add_44 : decode cX2_add 44 = .ok (.dup, 1) := by decide +kernel
theorem dX2_add_45 : decode cX2_add 45 = .ok (.getfield 21, 3) := by decide +kernel
theorem dX2_add_48 : decode cX2_add 48 = .ok (.iconst 1, 1) := by decide +kernel
theorem dX2_add_49 : decode cX2_add 49 = .ok (.iadd, 1) := by decide +kernel
theorem dX2_add_50 : decode cX2_add 50 = .ok (.putfield 21, 3) := by decide +kernel
theorem dX2_add_53 : decode cX2_add 53 = .ok (.aload_n 0, 1) := by decide +kernel
theorem dX2_add_54 : decode cX2_add 54 = .ok (.getfield 21, 3) := by decide +kernel
theorem dX2_add_57 : decode cX2_add 57 = .ok (.iconst 1, 1) := by decide +kernel
theorem dX2_add_58 : decode cX2_add 58 = .ok (.isub, 1) := by decide +kernel
theorem dX2_add_59 : decode cX2_add 59 = .ok (.ireturn, 1) := by decide +kernel
theorem dX2_isBanned_0 : decode cX2_isBanned 0 = .ok (.aload_n 0, 1) := by decide +kernel
theorem dX2_isBanned_1 : decode cX2_isBanned 1 = .ok (.getfield 18, 3) := by decide +kernel
theorem dX2_isBanned_4 : decode cX2_isBanned 4 = .ok (.iload_n 1, 1) := by decide +kernel
theorem dX2_isBanned_5 : decode cX2_isBanned 5 = .ok (.iaload, 1) := by decide +kernel
theorem dX2_isBanned_6 : decode cX2_isBanned 6 = .ok (.iload_n 2, 1) := by decide +kernel
theorem dX2_isBanned_7 : decode cX2_isBanned 7 = .ok (.if_icmp .gt 7, 3) := by decide +kernel
theorem dX2_isBanned_10 : decode cX2_isBanned 10 = .ok (.iconst 1, 1) := by decide +kernel
theorem dX2_isBanned_11 : decode cX2_isBanned 11 = .ok (.goto 4, 3) := by decide +kernel
theorem dX2_isBanned_14 : decode cX2_isBanned 14 = .ok (.iconst 0, 1) := by decide +kernel
theorem dX2_isBanned_15 : decode cX2_isBanned 15 = .ok (.ireturn, 1) := by decide +kernel
theorem dX3_init_0 : decode cX3_init 0 = .ok (.aload_n 0, 1) := by decide +kernel
theorem dX3_init_1 : decode cX3_init 1 = .ok (.invokespecial 3, 3) := by decide +kernel
theorem dX3_init_4 : decode cX3_init 4 = .ok (.aload_n 0, 1) := by decide +kernel
theorem dX3_init_5 : decode cX3_init 5 = .ok (.bipush 6, 2) := by decide +kernel
theorem dX3_init_7 : decode cX3_init 7 = .ok (.newarray .int, 2) := by decide +kernel
theorem dX3_init_9 : decode cX3_init 9 = .ok (.putfield 9, 3) := by decide +kernel
theorem dX3_init_12 : decode cX3_init 12 = .ok (.aload_n 0, 1) := by decide +kernel
theorem dX3_init_13 : decode cX3_init 13 = .ok (.bipush 6, 2) := by decide +kernel
theorem dX3_init_15 : decode cX3_init 15 = .ok (.newarray .int, 2) := by decide +kernel
theorem dX3_init_17 : decode cX3_init 17 = .ok (.putfield 15, 3) := by decide +kernel
theorem dX3_init_20 : decode cX3_init 20 = .ok (.aload_n 0, 1) := by decide +kernel
theorem dX3_init_21 : decode cX3_init 21 = .ok (.bipush 6, 2) := by decide +kernel
theorem dX3_init_23 : decode cX3_init 23 = .ok (.newarray .int, 2) := by decide +kernel
theorem dX3_init_25 : decode cX3_init 25 = .ok (.putfield 18, 3) := by decide +kernel
theorem dX3_init_28 : decode cX3_init 28 = .ok (.aload_n 0, 1) := by decide +kernel
theorem dX3_init_29 : decode cX3_init 29 = .ok (.bipush 6, 2) := by decide +kernel
theorem dX3_init_31 : decode cX3_init 31 = .ok (.newarray .int, 2) := by decide +kernel
theorem dX3_init_33 : decode cX3_init 33 = .ok (.putfield 21, 3) := by decide +kernel
theorem dX3_init_36 : decode cX3_init 36 = .ok (.iconst 0, 1) := by decide +kernel
theorem dX3_init_37 : decode cX3_init 37 = .ok (.istore_n 1, 1) := by decide +kernel
theorem dX3_init_38 : decode cX3_init 38 = .ok (.iload_n 1, 1) := by decide +kernel
theorem dX3_init_39 : decode cX3_init 39 = .ok (.bipush 6, 2) := by decide +kernel
theorem dX3_init_41 : decode cX3_init 41 = .ok (.if_icmp .ge 18, 3) := by decide +kernel
theorem dX3_init_44 : decode cX3_init 44 = .ok (.aload_n 0, 1) := by decide +kernel
theorem dX3_init_45 : decode cX3_init 45 = .ok (.getfield 9, 3) := by decide +kernel
theorem dX3_init_48 : decode cX3_init 48 = .ok (.iload_n 1, 1) := by decide +kernel
theorem dX3_init_49 : decode cX3_init 49 = .ok (.sipush 1000, 3) := by decide +kernel
theorem dX3_init_52 : decode cX3_init 52 = .ok (.iastore, 1) := by decide +kernel
theorem dX3_init_53 : decode cX3_init 53 = .ok (.iinc 1 1, 3) := by decide +kernel
theorem dX3_init_56 : decode cX3_init 56 = .ok (.goto (-18), 3) := by decide +kernel
theorem dX3_init_59 : decode cX3_init 59 = .ok (.return_, 1) := by decide +kernel
theorem dX3_tell_0 : decode cX3_tell 0 = .ok (.aload_n 0, 1) := by decide +kernel
theorem dX3_tell_1 : decode cX3_tell 1 = .ok (.getfield 9, 3) := by decide +kernel
theorem dX3_tell_4 : decode cX3_tell 4 = .ok (.iload_n 2, 1) := by decide +kernel
theorem dX3_tell_5 : decode cX3_tell 5 = .ok (.iaload, 1) := by decide +kernel
theorem dX3_tell_6 : decode cX3_tell 6 = .ok (.aload_n 0, 1) := by decide +kernel
theorem dX3_tell_7 : decode cX3_tell 7 = .ok (.getfield 9, 3) := by decide +kernel
theorem dX3_tell_10 : decode cX3_tell 10 = .ok (.iload_n 1, 1) := by decide +kernel
theorem dX3_tell_11 : decode cX3_tell 11 = .ok (.iaload, 1) := by decide +kernel
theorem dX3_tell_12 : decode cX3_tell 12 = .ok (.isub, 1) := by decide +kernel
theorem dX3_tell_13 : decode cX3_tell 13 = .ok (.iconst 4, 1) := by decide +kernel
theorem dX3_tell_14 : decode cX3_tell 14 = .ok (.idiv, 1) := by decide +kernel
theorem dX3_tell_15 : decode cX3_tell 15 = .ok (.istore_n 3, 1) := by decide +kernel
theorem dX3_tell_16 : decode cX3_tell 16 = .ok (.iconst 1, 1) := by decide +kernel
theorem dX3_tell_17 : decode cX3_tell 17 = .ok (.bipush 32, 2) := by decide +kernel
theorem dX3_tell_19 : decode cX3_tell 19 = .ok (.bipush 16, 2) := by decide +kernel
theorem dX3_tell_21 : decode cX3_tell 21 = .ok (.iload_n 3, 1) := by decide +kernel
theorem dX3_tell_22 : decode cX3_tell 22 = .ok (.iadd, 1) := by decide +kernel
theorem dX3_tell_23 : decode cX3_tell 23 = .ok (.invokestatic 24, 3) := by decide +kernel
theorem dX3_tell_26 : decode cX3_tell 26 = .ok (.invokestatic 30, 3) := by decide +kernel
theorem dX3_tell_29 : decode cX3_tell 29 = .ok (.istore 4, 2) := by decide +kernel
theorem dX3_tell_31 : decode cX3_tell 31 = .ok (.aload_n 0, 1) := by decide +kernel
theorem dX3_tell_32 : decode cX3_tell 32 = .ok (.getfield 9, 3) := by decide +kernel
theorem dX3_tell_35 : decode cX3_tell 35 = .ok (.iload_n 1, 1) := by decide +kernel
theorem dX3_tell_36 : decode cX3_tell 36 = .ok (.dup2, 1) := by decide +kernel
theorem dX3_tell_37 : decode cX3_tell 37 = .ok (.iaload, 1) := by decide +kernel
theorem dX3_tell_38 : decode cX3_tell 38 = .ok (.iload 4, 2) := by decide +kernel
theorem dX3_tell_40 : decode cX3_tell 40 = .ok (.iadd, 1) := by decide +kernel
theorem dX3_tell_41 : decode cX3_tell 41 = .ok (.iastore, 1) := by decide +kernel
theorem dX3_tell_42 : decode cX3_tell 42 = .ok (.aload_n 0, 1) := by decide +kernel
theorem dX3_tell_43 : decode cX3_tell 43 = .ok (.getfield 9, 3) := by decide +kernel
theorem dX3_tell_46 : decode cX3_tell 46 = .ok (.iload_n 2, 1) := by decide +kernel
theorem dX3_tell_47 : decode cX3_tell 47 = .ok (.dup2, 1) := by decide +kernel
theorem dX3_tell_48 : decode cX3_tell 48 = .ok (.iaload, 1) := by decide +kernel
theorem dX3_tell_49 : decode cX3_tell 49 = .ok (.iload 4, 2) := by decide +kernel
theorem dX3_tell_51 : decode cX3_tell 51 = .ok (.isub, 1) := by decide +kernel
theorem dX3_tell_52 : decode cX3_tell 52 = .ok (.iastore, 1) := by decide +kernel
theorem dX3_tell_53 : decode cX3_tell 53 = .ok (.aload_n 0, 1) := by decide +kernel
theorem dX3_tell_54 : decode cX3_tell 54 = .ok (.getfield 15, 3) := by decide +kernel
theorem dX3_tell_57 : decode cX3_tell 57 = .ok (.iload_n 1, 1) := by decide +kernel
theorem dX3_tell_58 : decode cX3_tell 58 = .ok (.dup2, 1) := by decide +kernel
theorem dX3_tell_59 : decode cX3_tell 59 = .ok (.iaload, 1) := by decide +kernel
theorem dX3_tell_60 : decode cX3_tell 60 = .ok (.iconst 1, 1) := by decide +kernel
theorem dX3_tell_61 : decode cX3_tell 61 = .ok (.iload_n 2, 1) := by decide +kernel
theorem dX3_tell_62 : decode cX3_tell 62 = .ok (.ishl, 1) := by decide +kernel
theorem dX3_tell_63 : decode cX3_tell 63 = .ok (.ior, 1) := by decide +kernel
theorem dX3_tell_64 : decode cX3_tell 64 = .ok (.iastore, 1) := by decide +kernel
theorem dX3_tell_65 : decode cX3_tell 65 = .ok (.aload_n 0, 1) := by decide +kernel
theorem dX3_tell_66 : decode cX3_tell 66 = .ok (.getfield 15, 3) := by decide +kernel
theorem dX3_tell_69 : decode cX3_tell 69 = .ok (.iload_n 2, 1) := by decide +kernel
theorem dX3_tell_70 : decode cX3_tell 70 = .ok (.dup2, 1) := by decide +kernel
theorem dX3_tell_71 : decode cX3_tell 71 = .ok (.iaload, 1) := by decide +kernel
theorem dX3_tell_72 : decode cX3_tell 72 = .ok (.iconst 1, 1) := by decide +kernel
theorem dX3_tell_73 : decode cX3_tell 73 = .ok (.iload_n 1, 1) := by decide +kernel
theorem dX3_tell_74 : decode cX3_tell 74 = .ok (.ishl, 1) := by decide +kernel
theorem dX3_tell_75 : decode cX3_tell 75 = .ok (.ior, 1) := by decide +kernel
theorem dX3_tell_76 : decode cX3_tell 76 = .ok (.iastore, 1) := by decide +kernel
theorem dX3_tell_77 : decode cX3_tell 77 = .ok (.iload 4, 2) := by decide +kernel
theorem dX3_tell_79 : decode cX3_tell 79 = .ok (.ireturn, 1) := by decide +kernel
set_option maxRecDepth 20000 in
theorem ggX3_findOther_X3_makeRow : GoodIn wsX3_findOther wsX3_makeRow := goodIn_r _ [7, 2, 8, 9, 10, 6, 11, 12, 13, 23, 24, 25, 26, 27] (by decide +kernel) (by decide +kernel)
set_option maxRecDepth 20000 in
theorem gX3_findOther_X3_makeRow : GoodIn wsX3_findOther (wsV RX3 33 RX3 yX3_makeRow wsX3_makeRow) := goodIn_app (goodIn_of _ (by decide +kernel)) ggX3_findOther_X3_makeRow
set_option maxRecDepth 20000 in
theorem ggX3_findOther_X3_canPair : GoodIn wsX3_findOther wsX3_canPair := goodIn_r _ [17, 2, 18, 19, 20, 6, 21, 13, 22, 1, 14, 15, 16, 23, 24, 25, 26, 27] (by decide +kernel) (by decide +kernel)
set_option maxRecDepth 20000 in
theorem gX3_findOther_X3_canPair : GoodIn wsX3_findOther (wsV RX3 41 RX3 yX3_canPair wsX3_canPair) := goodIn_app (goodIn_of _ (by decide +kernel)) ggX3_findOther_X3_canPair
theorem dX3_findOther_0 : decode cX3_findOther 0 = .ok (.aload_n 0, 1) := by decide +kernel
theorem dX3_findOther_1 : decode cX3_findOther 1 = .ok (.iload_n 2, 1) := by decide +kernel
theorem dX3_findOther_2 : decode cX3_findOther 2 = .ok (.invokevirtual 33, 3) := by decide +kernel
theorem dX3_findOther_5 : decode cX3_findOther 5 = .ok (.iconst 0, 1) := by decide +kernel
theorem dX3_findOther_6 : decode cX3_findOther 6 = .ok (.istore_n 3, 1) := by decide +kernel
theorem dX3_findOther_7 : decode cX3_findOther 7 = .ok (.iload_n 3, 1) := by decide +kernel
theorem dX3_findOther_8 : decode cX3_findOther 8 = .ok (.bipush 6, 2) := by decide +kernel
theorem dX3_findOther_10 : decode cX3_findOther 10 = .ok (.if_icmp .ge 16, 3) := by decide +kernel
theorem dX3_findOther_13 : decode cX3_findOther 13 = .ok (.aload_n 0, 1) := by decide +kernel
theorem dX3_findOther_14 : decode cX3_findOther 14 = .ok (.getfield 21, 3) := by decide +kernel
theorem dX3_findOther_17 : decode cX3_findOther 17 = .ok (.iload_n 3, 1) := by decide +kernel
theorem dX3_findOther_18 : decode cX3_findOther 18 = .ok (.iconst (-1), 1) := by decide +kernel
theorem dX3_findOther_19 : decode cX3_findOther 19 = .ok (.iastore, 1) := by decide +kernel
theorem dX3_findOther_20 : decode cX3_findOther 20 = .ok (.iinc 3 1, 3) := by decide +kernel
theorem dX3_findOther_23 : decode cX3_findOther 23 = .ok (.goto (-16), 3) := by decide +kernel
theorem dX3_findOther_26 : decode cX3_findOther 26 = .ok (.aload_n 0, 1) := by decide +kernel
theorem dX3_findOther_27 : decode cX3_findOther 27 = .ok (.getfield 37, 3) := by decide +kernel
theorem dX3_findOther_30 : decode cX3_findOther 30 = .ok (.aload_n 0, 1) := by decide +kernel
theorem dX3_findOther_31 : decode cX3_findOther 31 = .ok (.getfield 37, 3) := by decide +kernel
theorem dX3_findOther_34 : decode cX3_findOther 34 = .ok (.iconst 2, 1) := by decide +kernel
theorem dX3_findOther_35 : decode cX3_findOther 35 = .ok (.irem, 1) := by decide +kernel
theorem dX3_findOther_36 : decode cX3_findOther 36 = .ok (.isub, 1) := by decide +kernel
theorem dX3_findOther_37 : decode cX3_findOther 37 = .ok (.istore_n 3, 1) := by decide +kernel
theorem dX3_findOther_38 : decode cX3_findOther 38 = .ok (.aload_n 0, 1) := by decide +kernel
theorem dX3_findOther_39 : decode cX3_findOther 39 = .ok (.iconst 1, 1) := by decide +kernel
theorem dX3_findOther_40 : decode cX3_findOther 40 = .ok (.iload_n 3, 1) := by decide +kernel
theorem dX3_findOther_41 : decode cX3_findOther 41 = .ok (.ishl, 1) := by decide +kernel
theorem dX3_findOther_42 : decode cX3_findOther 42 = .ok (.iconst 1, 1) := by decide +kernel
theorem dX3_findOther_43 : decode cX3_findOther 43 = .ok (.isub, 1) := by decide +kernel
theorem dX3_findOther_44 : decode cX3_findOther 44 = .ok (.iconst 0, 1) := by decide +kernel
theorem dX3_findOther_45 : decode cX3_findOther 45 = .ok (.invokevirtual 41, 3) := by decide +kernel
theorem dX3_findOther_48 : decode cX3_findOther 48 = .ok (.ifCond .eq 12, 3) := by decide +kernel
theorem dX3_findOther_51 : decode cX3_findOther 51 = .ok (.aload_n 0, 1) := by decide +kernel
theorem dX3_findOther_52 : decode cX3_findOther 52 = .ok (.getfield 21, 3) := by decide +kernel
theorem dX3_findOther_55 : decode cX3_findOther 55 = .ok (.iload_n 1, 1) := by decide +kernel
theorem dX3_findOther_56 : decode cX3_findOther 56 = .ok (.iaload, 1) := by decide +kernel
theorem dX3_findOther_57 : decode cX3_findOther 57 = .ok (.goto 4, 3) := by decide +kernel
theorem dX3_findOther_60 : decode cX3_findOther 60 = .ok (.iconst (-1), 1) := by decide +kernel
theorem dX3_findOther_61 : decode cX3_findOther 61 = .ok (.ireturn, 1) := by decide +kernel
set_option maxRecDepth 20000 in
theorem ggX3_makeRow_X3_putIntoRow : GoodIn wsX3_makeRow wsX3_putIntoRow := goodIn_r _ [6, 1, 7, 8, 9, 10, 11, 12, 13] (by decide +kernel) (by decide +kernel)
set_option maxRecDepth 20000 in
theorem gX3_makeRow_X3_putIntoRow : GoodIn wsX3_makeRow (wsV RX3 45 RX3 yX3_putIntoRow wsX3_putIntoRow) := goodIn_app (goodIn_of _ (by decide +kernel)) ggX3_makeRow_X3_putIntoRow
theorem dX3_makeRow_0 : decode cX3_makeRow 0 = .ok (.aload_n 0, 1) := by decide +kernel
theorem dX3_makeRow_1 : decode cX3_makeRow 1 = .ok (.iconst 0, 1) := by decide +kernel
theorem dX3_makeRow_2 : decode cX3_makeRow 2 = .ok (.putfield 37, 3) := by decide +kernel
theorem dX3_makeRow_5 : decode cX3_makeRow 5 = .ok (.iconst 0, 1) := by decide +kernel
theorem dX3_makeRow_6 : decode cX3_makeRow 6 = .ok (.istore_n 2, 1) := by decide +kernel
theorem dX3_makeRow_7 : decode cX3_makeRow 7 = .ok (.iload_n 2, 1) := by decide +kernel
theorem dX3_makeRow_8 : decode cX3_makeRow 8 = .ok (.bipush 6, 2) := by decide +kernel
theorem dX3_makeRow_10 : decode cX3_makeRow 10 = .ok (.if_icmp .ge 23, 3) := by decide +kernel
theorem dX3_makeRow_13 : decode cX3_makeRow 13 = .ok (.iload_n 1, 1) := by decide +kernel
theorem dX3_makeRow_14 : decode cX3_makeRow 14 = .ok (.iload_n 2, 1) := by decide +kernel
theorem dX3_makeRow_15 : decode cX3_makeRow 15 = .ok (.ishr, 1) := by decide +kernel
theorem dX3_makeRow_16 : decode cX3_makeRow 16 = .ok (.iconst 1, 1) := by decide +kernel
theorem dX3_makeRow_17 : decode cX3_makeRow 17 = .ok (.iand, 1) := by decide +kernel
theorem dX3_makeRow_18 : decode cX3_makeRow 18 = .ok (.iconst 1, 1) := by decide +kernel
theorem dX3_makeRow_19 : decode cX3_makeRow 19 = .ok (.if_icmp .ne 8, 3) := by decide +kernel
theorem dX3_makeRow_22 : decode cX3_makeRow 22 = .ok (.aload_n 0, 1) := by decide +kernel
theorem dX3_makeRow_23 : decode cX3_makeRow 23 = .ok (.iload_n 2, 1) := by decide +kernel
theorem dX3_makeRow_24 : decode cX3_makeRow 24 = .ok (.invokevirtual 45, 3) := by decide +kernel
theorem dX3_makeRow_27 : decode cX3_makeRow 27 = .ok (.iinc 2 1, 3) := by decide +kernel
theorem dX3_makeRow_30 : decode cX3_makeRow 30 = .ok (.goto (-23), 3) := by decide +kernel
theorem dX3_makeRow_33 : decode cX3_makeRow 33 = .ok (.return_, 1) := by decide +kernel
theorem dX3_putIntoRow_0 : decode cX3_putIntoRow 0 = .ok (.aload_n 0, 1) := by decide +kernel
theorem dX3_putIntoRow_1 : decode cX3_putIntoRow 1 = .ok (.getfield 37, 3) := by decide +kernel
theorem dX3_putIntoRow_4 : decode cX3_putIntoRow 4 = .ok (.bipush 6, 2) := by decide +kernel
theorem dX3_putIntoRow_6 : decode cX3_putIntoRow 6 = .ok (.if_icmp .lt 4, 3) := by decide +kernel
theorem dX3_putIntoRow_9 : decode cX3_putIntoRow 9 = .ok (.return_, 1) := by decide +kernel
theorem dX3_putIntoRow_10 : decode cX3_putIntoRow 10 = .ok (.aload_n 0, 1) := by decide +kernel
theorem dX3_putIntoRow_11 : decode cX3_putIntoRow 11 = .ok (.getfield 37, 3) := by decide +kernel
theorem dX3_putIntoRow_14 : decode cX3_putIntoRow 14 = .ok (.istore_n 2, 1) := by decide +kernel
theorem dX3_putIntoRow_15 : decode cX3_putIntoRow 15 = .ok (.iload_n 2, 1) := by decide +kernel
theorem dX3_putIntoRow_16 : decode cX3_putIntoRow 16 = .ok (.ifCond .le 45, 3) := by decide +kernel
theorem dX3_putIntoRow_19 : decode cX3_putIntoRow 19 = .ok (.aload_n 0, 1) := by decide +kernel
theorem dX3_putIntoRow_20 : decode cX3_putIntoRow 20 = .ok (.getfield 9, 3) := by decide +kernel
theorem dX3_putIntoRow_23 : decode cX3_putIntoRow 23 = .ok (.aload_n 0, 1) := by decide +kernel
theorem dX3_putIntoRow_24 : decode cX3_putIntoRow 24 = .ok (.getfield 18, 3) := by decide +kernel
theorem dX3_putIntoRow_27 : decode cX3_putIntoRow 27 = .ok (.iload_n 2, 1) := by decide +kernel
theorem dX3_putIntoRow_28 : decode cX3_putIntoRow 28 = .ok (.iconst 1, 1) := by decide +kernel
theorem dX3_putIntoRow_29 : decode cX3_putIntoRow 29 = .ok (.isub, 1) := by decide +kernel
theorem dX3_putIntoRow_30 : decode cX3_putIntoRow 30 = .ok (.iaload, 1) := by decide +kernel
theorem dX3_putIntoRow_31 : decode cX3_putIntoRow 31 = .ok (.iaload, 1) := by decide +kernel
theorem dX3_putIntoRow_32 : decode cX3_putIntoRow 32 = .ok (.aload_n 0, 1) := by decide +kernel
theorem dX3_putIntoRow_33 : decode cX3_putIntoRow 33 = .ok (.getfield 9, 3) := by decide +kernel
theorem dX3_putIntoRow_36 : decode cX3_putIntoRow 36 = .ok (.iload_n 1, 1) := by decide +kernel
theorem dX3_putIntoRow_37 : decode cX3_putIntoRow 37 = .ok (.iaload, 1) := by decide +kernel
theorem dX3_putIntoRow_38 : decode cX3_putIntoRow 38 = .ok (.if_icmp .ge 23, 3) := by decide +kernel
theorem dX3_putIntoRow_41 : decode cX3_putIntoRow 41 = .ok (.aload_n 0, 1) := by decide +kernel
theorem dX3_putIntoRow_42 : decode cX3_putIntoRow 42 = .ok (.getfield 18, 3) := by decide +kernel
theorem dX3_putIntoRow_45 : decode cX3_putIntoRow 45 = .ok (.iload_n 2, 1) := by decide +kernel
theorem dX3_putIntoRow_46 : decode cX3_putIntoRow 46 = .ok (.aload_n 0, 1) := by decide +kernel
theorem dX3_putIntoRow_47 : decode cX3_putIntoRow 47 = .ok (.getfield 18, 3) := by decide +kernel
theorem dX3_putIntoRow_50 : decode cX3_putIntoRow 50 = .ok (.iload_n 2, 1) := by decide +kernel
theorem dX3_putIntoRow_51 : decode cX3_putIntoRow 51 = .ok (.iconst 1, 1) := by decide +kernel
theorem dX3_putIntoRow_52 : decode cX3_putIntoRow 52 = .ok (.isub, 1) := by decide +kernel
theorem dX3_putIntoRow_53 : decode cX3_putIntoRow 53 = .ok (.iaload, 1) := by decide +kernel
theorem dX3_putIntoRow_54 : decode cX3_putIntoRow 54 = .ok (.iastore, 1) := by decide +kernel
theorem dX3_putIntoRow_55 : decode cX3_putIntoRow 55 = .ok (.iinc 2 (-1), 3) := by decide +kernel
theorem dX3_putIntoRow_58 : decode cX3_putIntoRow 58 = .ok (.goto (-43), 3) := by decide +kernel
theorem dX3_putIntoRow_61 : decode cX3_putIntoRow 61 = .ok (.aload_n 0, 1) := by decide +kernel
theorem dX3_putIntoRow_62 : decode cX3_putIntoRow 62 = .ok (.getfield 18, 3) := by decide +kernel
theorem dX3_putIntoRow_65 : decode cX3_putIntoRow 65 = .ok (.iload_n 2, 1) := by decide +kernel
theorem dX3_putIntoRow_66 : decode cX3_putIntoRow 66 = .ok (.iload_n 1, 1) := by decide +kernel
theorem dX3_putIntoRow_67 : decode cX3_putIntoRow 67 = .ok (.iastore, 1) := by decide +kernel
theorem dX3_putIntoRow_68 : decode cX3_putIntoRow 68 = .ok (.aload_n 0, 1) := by decide +kernel
theorem dX3_putIntoRow_69 : decode cX3_putIntoRow 69 = .ok (.dup, 1) := by decide +kernel
theorem dX3_putIntoRow_70 : decode cX3_putIntoRow 70 = .ok (.getfield 37, 3) := by decide +kernel
theorem dX3_putIntoRow_73 : decode cX3_putIntoRow 73 = .ok (.iconst 1, 1) := by decide +kernel
theorem dX3_putIntoRow_74 : decode cX3_putIntoRow 74 = .ok (.iadd, 1) := by decide +kernel
theorem dX3_putIntoRow_75 : decode cX3_putIntoRow 75 = .ok (.putfield 37, 3) := by decide +kernel
theorem dX3_putIntoRow_78 : decode cX3_putIntoRow 78 = .ok (.return_, 1) := by decide +kernel
set_option maxRecDepth 20000 in
theorem ggX3_canPair_X3_canPairBoth : GoodIn wsX3_canPair wsX3_canPairBoth := goodIn_r _ [6, 7, 8, 9, 10, 11, 12, 5, 0, 1, 2, 3, 4, 13, 14, 15, 16, 17] (by decide +kernel) (by decide +kernel)
set_option maxRecDepth 20000 in
theorem gX3_canPair_X3_canPairBoth : GoodIn wsX3_canPair (wsV RX3 48 RX3 yX3_canPairBoth wsX3_canPairBoth) := goodIn_app (goodIn_of _ (by decide +kernel)) ggX3_canPair_X3_canPairBoth
theorem dX3_canPair_0 : decode cX3_canPair 0 = .ok (.iload_n 1, 1) := by decide +kernel
theorem dX3_canPair_1 : decode cX3_canPair 1 = .ok (.ifCond .ne 5, 3) := by decide +kernel
theorem dX3_canPair_4 : decode cX3_canPair 4 = .ok (.iconst 1, 1) := by decide +kernel
theorem dX3_canPair_5 : decode cX3_canPair 5 = .ok (.ireturn, 1) := by decide +kernel
theorem dX3_canPair_6 : decode cX3_canPair 6 = .ok (.iconst 0, 1) := by decide +kernel
theorem dX3_canPair_7 : decode cX3_canPair 7 = .ok (.istore_n 3, 1) := by decide +kernel
theorem dX3_canPair_8 : decode cX3_canPair 8 = .ok (.iload_n 3, 1) := by decide +kernel
theorem dX3_canPair_9 : decode cX3_canPair 9 = .ok (.bipush 6, 2) := by decide +kernel
theorem dX3_canPair_11 : decode cX3_canPair 11 = .ok (.if_icmp .ge 17, 3) := by decide +kernel
theorem dX3_canPair_14 : decode cX3_canPair 14 = .ok (.iload_n 1, 1) := by decide +kernel
theorem dX3_canPair_15 : decode cX3_canPair 15 = .ok (.iload_n 3, 1) := by decide +kernel
theorem dX3_canPair_16 : decode cX3_canPair 16 = .ok (.ishr, 1) := by decide +kernel
theorem dX3_canPair_17 : decode cX3_canPair 17 = .ok (.iconst 1, 1) := by decide +kernel
theorem dX3_canPair_18 : decode cX3_canPair 18 = .ok (.iand, 1) := by decide +kernel
theorem dX3_canPair_19 : decode cX3_canPair 19 = .ok (.ifCond .ne 9, 3) := by decide +kernel
theorem dX3_canPair_22 : decode cX3_canPair 22 = .ok (.iinc 3 1, 3) := by decide +kernel
theorem dX3_canPair_25 : decode cX3_canPair 25 = .ok (.goto (-17), 3) := by decide +kernel
theorem dX3_canPair_28 : decode cX3_canPair 28 = .ok (.iload_n 3, 1) := by decide +kernel
theorem dX3_canPair_29 : decode cX3_canPair 29 = .ok (.iconst 1, 1) := by decide +kernel
theorem dX3_canPair_30 : decode cX3_canPair 30 = .ok (.iadd, 1) := by decide +kernel
theorem dX3_canPair_31 : decode cX3_canPair 31 = .ok (.istore 4, 2) := by decide +kernel
theorem dX3_canPair_33 : decode cX3_canPair 33 = .ok (.iload 4, 2) := by decide +kernel
theorem dX3_canPair_35 : decode cX3_canPair 35 = .ok (.aload_n 0, 1) := by decide +kernel
theorem dX3_canPair_36 : decode cX3_canPair 36 = .ok (.getfield 37, 3) := by decide +kernel
theorem dX3_canPair_39 : decode cX3_canPair 39 = .ok (.if_icmp .ge 35, 3) := by decide +kernel
theorem dX3_canPair_42 : decode cX3_canPair 42 = .ok (.iload_n 1, 1) := by decide +kernel
theorem dX3_canPair_43 : decode cX3_canPair 43 = .ok (.iload 4, 2) := by decide +kernel
theorem dX3_canPair_45 : decode cX3_canPair 45 = .ok (.ishr, 1) := by decide +kernel
theorem dX3_canPair_46 : decode cX3_canPair 46 = .ok (.iconst 1, 1) := by decide +kernel
theorem dX3_canPair_47 : decode cX3_canPair 47 = .ok (.iand, 1) := by decide +kernel
theorem dX3_canPair_48 : decode cX3_canPair 48 = .ok (.iconst 1, 1) := by decide +kernel
theorem dX3_canPair_49 : decode cX3_canPair 49 = .ok (.if_icmp .ne 19, 3) := by decide +kernel
theorem dX3_canPair_52 : decode cX3_canPair 52 = .ok (.aload_n 0, 1) := by decide +kernel
theorem dX3_canPair_53 : decode cX3_canPair 53 = .ok (.iload_n 3, 1) := by decide +kernel
theorem dX3_canPair_54 : decode cX3_canPair 54 = .ok (.iload 4, 2) := by decide +kernel
theorem dX3_canPair_56 : decode cX3_canPair 56 = .ok (.iload_n 1, 1) := by decide +kernel
theorem dX3_canPair_57 : decode cX3_canPair 57 = .ok (.iload_n 2, 1) := by decide +kernel
theorem dX3_canPair_58 : decode cX3_canPair 58 = .ok (.iconst 1, 1) := by decide +kernel
theorem dX3_canPair_59 : decode cX3_canPair 59 = .ok (.iadd, 1) := by decide +kernel
theorem dX3_canPair_60 : decode cX3_canPair 60 = .ok (.invokevirtual 48, 3) := by decide +kernel
theorem dX3_canPair_63 : decode cX3_canPair 63 = .ok (.ifCond .eq 5, 3) := by decide +kernel
theorem dX3_canPair_66 : decode cX3_canPair 66 = .ok (.iconst 1, 1) := by decide +kernel
theorem dX3_canPair_67 : decode cX3_canPair 67 = .ok (.ireturn, 1) := by decide +kernel
theorem dX3_canPair_68 : decode cX3_canPair 68 = .ok (.iinc 4 1, 3) := by decide +kernel
theorem dX3_canPair_71 : decode cX3_canPair 71 = .ok (.goto (-38), 3) := by decide +kernel
theorem dX3_canPair_74 : decode cX3_canPair 74 = .ok (.iconst 0, 1) := by decide +kernel
theorem dX3_canPair_75 : decode cX3_canPair 75 = .ok (.ireturn, 1) := by decide +kernel
set_option maxRecDepth 20000 in
theorem ggX3_canPairBoth_X3_canPair : GoodIn wsX3_canPairBoth wsX3_canPair := goodIn_r _ [8, 9, 10, 11, 12, 7, 0, 1, 2, 3, 4, 5, 6, 13, 14, 15, 16, 17] (by decide +kernel) (by decide +kernel)
set_option maxRecDepth 20000 in
theorem gX3_canPairBoth_X3_canPair : GoodIn wsX3_canPairBoth (wsV RX3 41 RX3 yX3_canPair wsX3_canPair) := goodIn_app (goodIn_of _ (by decide +kernel)) ggX3_canPairBoth_X3_canPair
theorem dX3_canPairBoth_0 : decode cX3_canPairBoth 0 = .ok (.aload_n 0, 1) := by decide +kernel
theorem dX3_canPairBoth_1 : decode cX3_canPairBoth 1 = .ok (.getfield 18, 3) := by decide +kernel
theorem dX3_canPairBoth_4 : decode cX3_canPairBoth 4 = .ok (.iload_n 1, 1) := by decide +kernel
theorem dX3_canPairBoth_5 : decode cX3_canPairBoth 5 = .ok (.iaload, 1) := by decide +kernel
theorem dX3_canPairBoth_6 : decode cX3_canPairBoth 6 = .ok (.istore 5, 2) := by decide +kernel
theorem dX3_canPairBoth_8 : decode cX3_canPairBoth 8 = .ok (.aload_n 0, 1) := by decide +kernel
theorem dX3_canPairBoth_9 : decode cX3_canPairBoth 9 = .ok (.getfield 18, 3) := by decide +kernel
theorem dX3_canPairBoth_12 : decode cX3_canPairBoth 12 = .ok (.iload_n 2, 1) := by decide +kernel
theorem dX3_canPairBoth_13 : decode cX3_canPairBoth 13 = .ok (.iaload, 1) := by decide +kernel
theorem dX3_canPairBoth_14 : decode cX3_canPairBoth 14 = .ok (.istore 6, 2) := by decide +kernel
theorem dX3_canPairBoth_16 : decode cX3_canPairBoth 16 = .ok (.aload_n 0, 1) := by decide +kernel
theorem dX3_canPairBoth_17 : decode cX3_canPairBoth 17 = .ok (.getfield 15, 3) := by decide +kernel
theorem dX3_canPairBoth_20 : decode cX3_canPairBoth 20 = .ok (.iload 5, 2) := by decide +kernel
theorem dX3_canPairBoth_22 : decode cX3_canPairBoth 22 = .ok (.iaload, 1) := by decide +kernel
theorem dX3_canPairBoth_23 : decode cX3_canPairBoth 23 = .ok (.iload 6, 2) := by decide +kernel
theorem dX3_canPairBoth_25 : decode cX3_canPairBoth 25 = .ok (.ishr, 1) := by decide +kernel
theorem dX3_canPairBoth_26 : decode cX3_canPairBoth 26 = .ok (.iconst 1, 1) := by decide +kernel
theorem dX3_canPairBoth_27 : decode cX3_canPairBoth 27 = .ok (.iand, 1) := by decide +kernel
theorem dX3_canPairBoth_28 : decode cX3_canPairBoth 28 = .ok (.iconst 1, 1) := by decide +kernel
theorem dX3_canPairBoth_29 : decode cX3_canPairBoth 29 = .ok (.if_icmp .ne 7, 3) := by decide +kernel
theorem dX3_canPairBoth_32 : decode cX3_canPairBoth 32 = .ok (.iconst 1, 1) := by decide +kernel
theorem dX3_canPairBoth_33 : decode cX3_canPairBoth 33 = .ok (.goto 4, 3) := by decide +kernel
theorem dX3_canPairBoth_36 : decode cX3_canPairBoth 36 = .ok (.iconst 0, 1) := by decide +kernel
theorem dX3_canPairBoth_37 : decode cX3_canPairBoth 37 = .ok (.istore 7, 2) := by decide +kernel
theorem dX3_canPairBoth_39 : decode cX3_canPairBoth 39 = .ok (.iload 7, 2) := by decide +kernel
theorem dX3_canPairBoth_41 : decode cX3_canPairBoth 41 = .ok (.ifCond .ne 32, 3) := by decide +kernel
theorem dX3_canPairBoth_44 : decode cX3_canPairBoth 44 = .ok (.iload 4, 2) := by decide +kernel
theorem dX3_canPairBoth_46 : decode cX3_canPairBoth 46 = .ok (.bipush 6, 2) := by decide +kernel
theorem dX3_canPairBoth_48 : decode cX3_canPairBoth 48 = .ok (.if_icmp .gt 25, 3) := by decide +kernel
theorem dX3_canPairBoth_51 : decode cX3_canPairBoth 51 = .ok (.aload_n 0, 1) := by decide +kernel
theorem dX3_canPairBoth_52 : decode cX3_canPairBoth 52 = .ok (.iload_n 3, 1) := by decide +kernel
theorem dX3_canPairBoth_53 : decode cX3_canPairBoth 53 = .ok (.iconst 1, 1) := by decide +kernel
theorem dX3_canPairBoth_54 : decode cX3_canPairBoth 54 = .ok (.iload_n 1, 1) := by decide +kernel
theorem dX3_canPairBoth_55 : decode cX3_canPairBoth 55 = .ok (.ishl, 1) := by decide +kernel
theorem dX3_canPairBoth_56 : decode cX3_canPairBoth 56 = .ok (.iconst (-1), 1) := by decide +kernel
theorem dX3_canPairBoth_57 : decode cX3_canPairBoth 57 = .ok (.ixor, 1) := by decide +kernel
theorem dX3_canPairBoth_58 : decode cX3_canPairBoth 58 = .ok (.iand, 1) := by decide +kernel
theorem dX3_canPairBoth_59 : decode cX3_canPairBoth 59 = .ok (.iconst 1, 1) := by decide +kernel
theorem dX3_canPairBoth_60 : decode cX3_canPairBoth 60 = .ok (.iload_n 2, 1) := by decide +kernel
theorem dX3_canPairBoth_61 : decode cX3_canPairBoth 61 = .ok (.ishl, 1) := by decide +kernel
theorem dX3_canPairBoth_62 : decode cX3_canPairBoth 62 = .ok (.iconst (-1), 1) := by decide +kernel
theorem dX3_canPairBoth_63 : decode cX3_canPairBoth 63 = .ok (.ixor, 1) := by decide +kernel
theorem dX3_canPairBoth_64 : decode cX3_canPairBoth 64 = .ok (.iand, 1) := by decide +kernel
theorem dX3_canPairBoth_65 : decode cX3_canPairBoth 65 = .ok (.iload 4, 2) := by decide +kernel
theorem dX3_canPairBoth_67 : decode cX3_canPairBoth 67 = .ok (.invokevirtual 41, 3) := by decide +kernel
theorem dX3_canPairBoth_70 : decode cX3_canPairBoth 70 = .ok (.ifCond .ne 5, 3) := by decide +kernel
theorem dX3_canPairBoth_73 : decode cX3_canPairBoth 73 = .ok (.iconst 0, 1) := by decide +kernel
theorem dX3_canPairBoth_74 : decode cX3_canPairBoth 74 = .ok (.ireturn, 1) := by decide +kernel
theorem dX3_canPairBoth_75 : decode cX3_canPairBoth 75 = .ok (.aload_n 0, 1) := by decide +kernel
theorem dX3_canPairBoth_76 : decode cX3_canPairBoth 76 = .ok (.getfield 21, 3) := by decide +kernel
theorem dX3_canPairBoth_79 : decode cX3_canPairBoth 79 = .ok (.iload 5, 2) := by decide +kernel
theorem dX3_canPairBoth_81 : decode cX3_canPairBoth 81 = .ok (.iload 6, 2) := by decide +kernel
theorem dX3_canPairBoth_83 : decode cX3_canPairBoth 83 = .ok (.iastore, 1) := by decide +kernel
theorem dX3_canPairBoth_84 : decode cX3_canPairBoth 84 = .ok (.aload_n 0, 1) := by decide +kernel
theorem dX3_canPairBoth_85 : decode cX3_canPairBoth 85 = .ok (.getfield 21, 3) := by decide +kernel
theorem dX3_canPairBoth_88 : decode cX3_canPairBoth 88 = .ok (.iload 6, 2) := by decide +kernel
theorem dX3_canPairBoth_90 : decode cX3_canPairBoth 90 = .ok (.iload 5, 2) := by decide +kernel
theorem dX3_canPairBoth_92 : decode cX3_canPairBoth 92 = .ok (.iastore, 1) := by decide +kernel
theorem dX3_canPairBoth_93 : decode cX3_canPairBoth 93 = .ok (.iconst 1, 1) := by decide +kernel
theorem dX3_canPairBoth_94 : decode cX3_canPairBoth 94 = .ok (.ireturn, 1) := by decide +kernel
set_option maxRecDepth 20000 in
theorem ggX4_init_X6_init : GoodIn wsX4_init wsX6_init := goodIn_r _ [10, 11, 2, 3, 12, 13, 14, 15, 16, 17, 18, 19, 20, 21, 6, 22, 23, 24, 25, 26, 27, 28, 29, 30] (by decide +kernel) (by decide +kernel)
set_option maxRecDepth 20000 in
theorem gX4_init_X6_init : GoodIn wsX4_init (wsX6_init) := ggX4_init_X6_init
theorem dX4_init_0 : decode cX4_init 0 = .ok (.aload_n 0, 1) := by decide +kernel
theorem dX4_init_1 : decode cX4_init 1 = .ok (.invokespecial 3, 3) := by decide +kernel
theorem dX4_init_4 : decode cX4_init 4 = .ok (.aload_n 0, 1) := by decide +kernel
theorem dX4_init_5 : decode cX4_init 5 = .ok (.new 9, 3) := by decide +kernel
theorem dX4_init_8 : decode cX4_init 8 = .ok (.dup, 1) := by decide +kernel
theorem dX4_init_9 : decode cX4_init 9 = .ok (.invokespecial 11, 3) := by decide +kernel
theorem dX4_init_12 : decode cX4_init 12 = .ok (.putfield 12, 3) := by decide +kernel
theorem dX4_init_15 : decode cX4_init 15 = .ok (.return_, 1) := by decide +kernel
set_option maxRecDepth 20000 in
theorem ggX4_find_X6_copyFrom : GoodIn wsX4_find wsX6_copyFrom := goodIn_r _ [11, 12, 13, 14, 15, 16, 17, 18, 77, 78, 79, 80, 81, 82, 83] (by decide +kernel) (by decide +kernel)
set_option maxRecDepth 20000 in
theorem gX4_find_X6_copyFrom : GoodIn wsX4_find (wsV RX4 18 RX6 yX6_copyFrom wsX6_copyFrom) := goodIn_app (goodIn_of _ (by decide +kernel)) ggX4_find_X6_copyFrom
set_option maxRecDepth 20000 in
theorem ggX4_find_X4_goOn : GoodIn wsX4_find wsX4_goOn := goodIn_r _ [23, 1, 6, 24, 25, 26, 22, 27, 28, 2, 4, 3, 5, 29, 30, 31, 32, 33, 34, 35, 36, 37, 38, 39, 40, 41, 42, 43, 44, 45, 46, 10, 47, 14, 15, 19, 20, 21, 48, 49, 50, 51, 52, 53, 54, 55, 56, 16, 57, 58, 59, 60, 61, 62, 63, 64, 65, 18, 12, 13, 66, 67, 68, 69, 70, 71, 72, 73, 74, 75, 76, 77, 78, 79, 80, 81, 82, 83] (by decide +kernel) (by decide +kernel)
set_option maxRecDepth 20000 in
theorem gX4_find_X4_goOn : GoodIn wsX4_find (wsV RX4 39 RX4 yX4_goOn wsX4_goOn) := goodIn_app (goodIn_of _ (by decide +kernel)) ggX4_find_X4_goOn
theorem dX4_find_0 : decode cX4_find 0 = .ok (.aload_n 0, 1) := by decide +kernel
theorem dX4_find_1 : decode cX4_find 1 = .ok (.getfield 12, 3) := by decide +kernel
theorem dX4_find_4 : decode cX4_find 4 = .ok (.aload_n 1, 1) := by decide +kernel
theorem dX4_find_5 : decode cX4_find 5 = .ok (.invokevirtual 18, 3) := by decide +kernel
theorem dX4_find_8 : decode cX4_find 8 = .ok (.aload_n 0, 1) := by decide +kernel
theorem dX4_find_9 : decode cX4_find 9 = .ok (.iload_n 2, 1) := by decide +kernel
theorem dX4_find_10 : decode cX4_find 10 = .ok (.putfield 22, 3) := by decide +kernel
theorem dX4_find_13 : decode cX4_find 13 = .ok (.aload_n 0, 1) := by decide +kernel
theorem dX4_find_14 : decode cX4_find 14 = .ok (.iload_n 3, 1) := by decide +kernel
theorem dX4_find_15 : decode cX4_find 15 = .ok (.putfield 26, 3) := by decide +kernel
theorem dX4_find_18 : decode cX4_find 18 = .ok (.aload_n 0, 1) := by decide +kernel
theorem dX4_find_19 : decode cX4_find 19 = .ok (.iconst 0, 1) := by decide +kernel
theorem dX4_find_20 : decode cX4_find 20 = .ok (.putfield 30, 3) := by decide +kernel
theorem dX4_find_23 : decode cX4_find 23 = .ok (.aload_n 0, 1) := by decide +kernel
theorem dX4_find_24 : decode cX4_find 24 = .ok (.iconst (-1), 1) := by decide +kernel
theorem dX4_find_25 : decode cX4_find 25 = .ok (.putfield 33, 3) := by decide +kernel
theorem dX4_find_28 : decode cX4_find 28 = .ok (.aload_n 0, 1) := by decide +kernel
theorem dX4_find_29 : decode cX4_find 29 = .ok (.iconst 1, 1) := by decide +kernel
theorem dX4_find_30 : decode cX4_find 30 = .ok (.aload_n 1, 1) := by decide +kernel
theorem dX4_find_31 : decode cX4_find 31 = .ok (.getfield 36, 3) := by decide +kernel
theorem dX4_find_34 : decode cX4_find 34 = .ok (.ishl, 1) := by decide +kernel
theorem dX4_find_35 : decode cX4_find 35 = .ok (.iconst 1, 1) := by decide +kernel
theorem dX4_find_36 : decode cX4_find 36 = .ok (.isub, 1) := by decide +kernel
theorem dX4_find_37 : decode cX4_find 37 = .ok (.iconst 0, 1) := by decide +kernel
theorem dX4_find_38 : decode cX4_find 38 = .ok (.invokevirtual 39, 3) := by decide +kernel
theorem dX4_find_41 : decode cX4_find 41 = .ok (.aload_n 0, 1) := by decide +kernel
theorem dX4_find_42 : decode cX4_find 42 = .ok (.getfield 33, 3) := by decide +kernel
theorem dX4_find_45 : decode cX4_find 45 = .ok (.ireturn, 1) := by decide +kernel
set_option maxRecDepth 20000 in
theorem ggX4_goOn_X4_note : GoodIn wsX4_goOn wsX4_note := goodIn_r _ [7, 1, 8, 9, 10, 11, 12, 66, 67, 68, 69, 70, 71, 72, 73, 74, 75, 76, 77] (by decide +kernel) (by decide +kernel)
set_option maxRecDepth 20000 in
theorem gX4_goOn_X4_note : GoodIn wsX4_goOn (wsV RX4 43 RX4 yX4_note wsX4_note) := goodIn_app (goodIn_of _ (by decide +kernel)) ggX4_goOn_X4_note
set_option maxRecDepth 20000 in
theorem ggX4_goOn_X4_isIn : GoodIn wsX4_goOn wsX4_isIn := goodIn_r _ [15] (by decide +kernel) (by decide +kernel)
set_option maxRecDepth 20000 in
theorem gX4_goOn_X4_isIn : GoodIn wsX4_goOn (va_wsS RX4 46 yX4_isIn wsX4_isIn) := goodIn_app (goodIn_of _ (by decide +kernel)) ggX4_goOn_X4_isIn
set_option maxRecDepth 20000 in
theorem ggX4_goOn_X4_doNext : GoodIn wsX4_goOn wsX4_doNext := goodIn_r _ [19, 1, 20, 21, 22, 23, 24, 6, 25, 26, 27, 28, 29, 30, 31, 32, 33, 34, 35, 36, 37, 38, 39, 40, 41, 2, 42, 13, 14, 15, 43, 44, 45, 46, 47, 48, 16, 17, 18, 0, 3, 4, 5, 7, 8, 9, 10, 11, 12, 49, 50, 51, 52, 53, 54, 55, 56, 57, 58, 59, 60, 61, 62, 63, 64, 65, 66, 67, 68, 69, 70, 71, 72, 73, 74, 75, 76, 77] (by decide +kernel) (by decide +kernel)
set_option maxRecDepth 20000 in
theorem gX4_goOn_X4_doNext : GoodIn wsX4_goOn (wsV RX4 50 RX4 yX4_doNext wsX4_doNext) := goodIn_app (goodIn_of _ (by decide +kernel)) ggX4_goOn_X4_doNext
theorem dX4_goOn_0 : decode cX4_goOn 0 = .ok (.iload_n 1, 1) := by decide +kernel
theorem dX4_goOn_1 : decode cX4_goOn 1 = .ok (.ifCond .ne 8, 3) := by decide +kernel
theorem dX4_goOn_4 : decode cX4_goOn 4 = .ok (.aload_n 0, 1) := by decide +kernel
theorem dX4_goOn_5 : decode cX4_goOn 5 = .ok (.invokevirtual 43, 3) := by decide +kernel
theorem dX4_goOn_8 : decode cX4_goOn 8 = .ok (.return_, 1) := by decide +kernel
theorem dX4_goOn_9 : decode cX4_goOn 9 = .ok (.iconst 0, 1) := by decide +kernel
theorem dX4_goOn_10 : decode cX4_goOn 10 = .ok (.istore_n 3, 1) := by decide +kernel
theorem dX4_goOn_11 : decode cX4_goOn 11 = .ok (.iload_n 3, 1) := by decide +kernel
theorem dX4_goOn_12 : decode cX4_goOn 12 = .ok (.aload_n 0, 1) := by decide +kernel
theorem dX4_goOn_13 : decode cX4_goOn 13 = .ok (.getfield 12, 3) := by decide +kernel
theorem dX4_goOn_16 : decode cX4_goOn 16 = .ok (.getfield 36, 3) := by decide +kernel
theorem dX4_goOn_19 : decode cX4_goOn 19 = .ok (.if_icmp .ge 32, 3) := by decide +kernel
theorem dX4_goOn_22 : decode cX4_goOn 22 = .ok (.iload_n 1, 1) := by decide +kernel
theorem dX4_goOn_23 : decode cX4_goOn 23 = .ok (.iload_n 3, 1) := by decide +kernel
theorem dX4_goOn_24 : decode cX4_goOn 24 = .ok (.invokestatic 46, 3) := by decide +kernel
theorem dX4_goOn_27 : decode cX4_goOn 27 = .ok (.ifCond .eq 18, 3) := by decide +kernel
theorem dX4_goOn_30 : decode cX4_goOn 30 = .ok (.aload_n 0, 1) := by decide +kernel
theorem dX4_goOn_31 : decode cX4_goOn 31 = .ok (.iload_n 3, 1) := by decide +kernel
theorem dX4_goOn_32 : decode cX4_goOn 32 = .ok (.iload_n 1, 1) := by decide +kernel
theorem dX4_goOn_33 : decode cX4_goOn 33 = .ok (.iconst 1, 1) := by decide +kernel
theorem dX4_goOn_34 : decode cX4_goOn 34 = .ok (.iload_n 3, 1) := by decide +kernel
theorem dX4_goOn_35 : decode cX4_goOn 35 = .ok (.ishl, 1) := by decide +kernel
theorem dX4_goOn_36 : decode cX4_goOn 36 = .ok (.iconst (-1), 1) := by decide +kernel
theorem dX4_goOn_37 : decode cX4_goOn 37 = .ok (.ixor, 1) := by decide +kernel
theorem dX4_goOn_38 : decode cX4_goOn 38 = .ok (.iand, 1) := by decide +kernel
theorem dX4_goOn_39 : decode cX4_goOn 39 = .ok (.iload_n 2, 1) := by decide +kernel
theorem dX4_goOn_40 : decode cX4_goOn 40 = .ok (.iconst 1, 1) := by decide +kernel
theorem dX4_goOn_41 : decode cX4_goOn 41 = .ok (.iadd, 1) := by decide +kernel
theorem dX4_goOn_42 : decode cX4_goOn 42 = .ok (.invokevirtual 50, 3) := by decide +kernel
theorem dX4_goOn_45 : decode cX4_goOn 45 = .ok (.iinc 3 1, 3) := by decide +kernel
theorem dX4_goOn_48 : decode cX4_goOn 48 = .ok (.goto (-37), 3) := by decide +kernel
theorem dX4_goOn_51 : decode cX4_goOn 51 = .ok (.return_, 1) := by decide +kernel
set_option maxRecDepth 20000 in
theorem ggX4_doNext_X4_stopAny : GoodIn wsX4_doNext wsX4_stopAny := goodIn_r _ [49, 1, 25, 3, 27, 28, 7, 29, 18, 19, 20, 0, 2, 4, 5, 6, 8, 9, 10, 11, 12, 13, 14, 15, 16, 17, 21, 22, 23, 24, 26, 30, 31, 32, 33, 34, 35, 36, 37, 38, 39, 40, 41, 42, 43, 44, 45, 46, 47, 48, 50, 51, 52, 53, 54, 55, 56, 57, 58, 59, 60, 61, 62, 63, 64, 65, 66, 67, 68, 69, 70, 71, 72, 73, 74, 75, 76, 77] (by decide +kernel) (by decide +kernel)
set_option maxRecDepth 20000 in
theorem gX4_doNext_X4_stopAny : GoodIn wsX4_doNext (wsV RX4 61 RX4 yX4_stopAny wsX4_stopAny) := goodIn_app (goodIn_of _ (by decide +kernel)) ggX4_doNext_X4_stopAny
set_option maxRecDepth 20000 in
theorem ggX4_doNext_X4_doubleAny : GoodIn wsX4_doNext wsX4_doubleAny := goodIn_r _ [24, 1, 25, 26, 18, 19, 20, 7, 27, 28, 29, 30, 31, 32, 14, 33, 34, 35, 36, 37, 38, 0, 2, 3, 4, 5, 6, 8, 9, 10, 11, 12, 13, 15, 16, 17, 21, 22, 23, 39, 40, 41, 42, 43, 44, 45, 46, 47, 48, 49, 50, 51, 52, 53, 54, 55, 56, 57, 58, 59, 60, 61, 62, 63, 64, 65, 66, 67, 68, 69, 70, 71, 72, 73, 74, 75, 76, 77] (by decide +kernel) (by decide +kernel)
set_option maxRecDepth 20000 in
theorem gX4_doNext_X4_doubleAny : GoodIn wsX4_doNext (wsV RX4 64 RX4 yX4_doubleAny wsX4_doubleAny) := goodIn_app (goodIn_of _ (by decide +kernel)) ggX4_doNext_X4_doubleAny
set_option maxRecDepth 20000 in
theorem ggX4_doNext_X6_turn : GoodIn wsX4_doNext wsX6_turn := goodIn_r _ [15, 16, 17, 71, 72, 73, 74, 75, 76, 77] (by decide +kernel) (by decide +kernel)
set_option maxRecDepth 20000 in
theorem gX4_doNext_X6_turn : GoodIn wsX4_doNext (wsV RX4 67 RX6 yX6_turn wsX6_turn) := goodIn_app (goodIn_of _ (by decide +kernel)) ggX4_doNext_X6_turn
set_option maxRecDepth 20000 in
theorem ggX4_doNext_X4_goOn : GoodIn wsX4_doNext wsX4_goOn := goodIn_r _ [39, 1, 25, 40, 41, 42, 7, 43, 44, 45, 46, 47, 48, 27, 28, 29, 36, 37, 38, 0, 2, 3, 4, 5, 6, 8, 9, 10, 11, 12, 13, 14, 15, 16, 17, 18, 19, 20, 21, 22, 23, 24, 26, 30, 31, 32, 33, 34, 35, 49, 50, 51, 52, 53, 54, 55, 56, 57, 58, 59, 60, 61, 62, 63, 64, 65, 66, 67, 68, 69, 70, 71, 72, 73, 74, 75, 76, 77] (by decide +kernel) (by decide +kernel)
set_option maxRecDepth 20000 in
theorem gX4_doNext_X4_goOn : GoodIn wsX4_doNext (wsV RX4 39 RX4 yX4_goOn wsX4_goOn) := goodIn_app (goodIn_of _ (by decide +kernel)) ggX4_doNext_X4_goOn
set_option maxRecDepth 20000 in
theorem ggX4_doNext_X4_touch : GoodIn wsX4_doNext wsX4_touch := goodIn_r _ [50, 1, 51, 44, 52, 53, 54, 55, 14, 56, 57, 34, 58, 59, 17, 60, 61, 62, 63, 64, 65, 18, 19, 20, 7, 0, 2, 3, 4, 5, 6, 8, 9, 10, 11, 12, 13, 15, 16, 21, 22, 23, 24, 25, 26, 27, 28, 29, 30, 31, 32, 33, 35, 36, 37, 38, 39, 40, 41, 42, 43, 45, 46, 47, 48, 49, 66, 67, 68, 69, 70, 71, 72, 73, 74, 75, 76, 77] (by decide +kernel) (by decide +kernel)
set_option maxRecDepth 20000 in
theorem gX4_doNext_X4_touch : GoodIn wsX4_doNext (wsV RX4 71 RX4 yX4_touch wsX4_touch) := goodIn_app (goodIn_of _ (by decide +kernel)) ggX4_doNext_X4_touch
theorem dX4_doNext_0 : decode cX4_doNext 0 = .ok (.iload_n 3, 1) := by decide +kernel
theorem dX4_doNext_1 : decode cX4_doNext 1 = .ok (.bipush 6, 2) := by decide +kernel
theorem dX4_doNext_3 : decode cX4_doNext 3 = .ok (.if_icmp .le 4, 3) := by decide +kernel
theorem dX4_doNext_6 : decode cX4_doNext 6 = .ok (.return_, 1) := by decide +kernel
theorem dX4_doNext_7 : decode cX4_doNext 7 = .ok (.aload_n 0, 1) := by decide +kernel
theorem dX4_doNext_8 : decode cX4_doNext 8 = .ok (.getfield 12, 3) := by decide +kernel
theorem dX4_doNext_11 : decode cX4_doNext 11 = .ok (.getfield 54, 3) := by decide +kernel
theorem dX4_doNext_14 : decode cX4_doNext 14 = .ok (.iload_n 1, 1) := by decide +kernel
theorem dX4_doNext_15 : decode cX4_doNext 15 = .ok (.iaload, 1) := by decide +kernel
theorem dX4_doNext_16 : decode cX4_doNext 16 = .ok (.tableswitch 80 3 5 #[28, 46, 55], 28) := by decide +kernel
theorem dX4_doNext_44 : decode cX4_doNext 44 = .ok (.aload_n 0, 1) := by decide +kernel
theorem dX4_doNext_45 : decode cX4_doNext 45 = .ok (.aload_n 0, 1) := by decide +kernel
theorem dX4_doNext_46 : decode cX4_doNext 46 = .ok (.getfield 12, 3) := by decide +kernel
theorem dX4_doNext_49 : decode cX4_doNext 49 = .ok (.getfield 58, 3) := by decide +kernel
theorem dX4_doNext_52 : decode cX4_doNext 52 = .ok (.iload_n 1, 1) := by decide +kernel
theorem dX4_doNext_53 : decode cX4_doNext 53 = .ok (.iaload, 1) := by decide +kernel
theorem dX4_doNext_54 : decode cX4_doNext 54 = .ok (.iload_n 2, 1) := by decide +kernel
theorem dX4_doNext_55 : decode cX4_doNext 55 = .ok (.iload_n 3, 1) := by decide +kernel
theorem dX4_doNext_56 : decode cX4_doNext 56 = .ok (.invokevirtual 61, 3) := by decide +kernel
theorem dX4_doNext_59 : decode cX4_doNext 59 = .ok (.goto 44, 3) := by decide +kernel
theorem dX4_doNext_62 : decode cX4_doNext 62 = .ok (.aload_n 0, 1) := by decide +kernel
theorem dX4_doNext_63 : decode cX4_doNext 63 = .ok (.iload_n 2, 1) := by decide +kernel
theorem dX4_doNext_64 : decode cX4_doNext 64 = .ok (.iload_n 3, 1) := by decide +kernel
theorem dX4_doNext_65 : decode cX4_doNext 65 = .ok (.invokevirtual 64, 3) := by decide +kernel
theorem dX4_doNext_68 : decode cX4_doNext 68 = .ok (.goto 35, 3) := by decide +kernel
theorem dX4_doNext_71 : decode cX4_doNext 71 = .ok (.aload_n 0, 1) := by decide +kernel
theorem dX4_doNext_72 : decode cX4_doNext 72 = .ok (.getfield 12, 3) := by decide +kernel
theorem dX4_doNext_75 : decode cX4_doNext 75 = .ok (.iload_n 2, 1) := by decide +kernel
theorem dX4_doNext_76 : decode cX4_doNext 76 = .ok (.invokevirtual 67, 3) := by decide +kernel
theorem dX4_doNext_79 : decode cX4_doNext 79 = .ok (.aload_n 0, 1) := by decide +kernel
theorem dX4_doNext_80 : decode cX4_doNext 80 = .ok (.iload_n 2, 1) := by decide +kernel
theorem dX4_doNext_81 : decode cX4_doNext 81 = .ok (.iload_n 3, 1) := by decide +kernel
theorem dX4_doNext_82 : decode cX4_doNext 82 = .ok (.invokevirtual 39, 3) := by decide +kernel
theorem dX4_doNext_85 : decode cX4_doNext 85 = .ok (.aload_n 0, 1) := by decide +kernel
theorem dX4_doNext_86 : decode cX4_doNext 86 = .ok (.getfield 12, 3) := by decide +kernel
theorem dX4_doNext_89 : decode cX4_doNext 89 = .ok (.iload_n 2, 1) := by decide +kernel
theorem dX4_doNext_90 : decode cX4_doNext 90 = .ok (.invokevirtual 67, 3) := by decide +kernel
theorem dX4_doNext_93 : decode cX4_doNext 93 = .ok (.goto 10, 3) := by decide +kernel
theorem dX4_doNext_96 : decode cX4_doNext 96 = .ok (.aload_n 0, 1) := by decide +kernel
theorem dX4_doNext_97 : decode cX4_doNext 97 = .ok (.iload_n 1, 1) := by decide +kernel
theorem dX4_doNext_98 : decode cX4_doNext 98 = .ok (.iload_n 2, 1) := by decide +kernel
theorem dX4_doNext_99 : decode cX4_doNext 99 = .ok (.iload_n 3, 1) := by decide +kernel
theorem dX4_doNext_100 : decode cX4_doNext 100 = .ok (.invokevirtual 71, 3) := by decide +kernel
theorem dX4_doNext_103 : decode cX4_doNext 103 = .ok (.return_, 1) := by decide +kernel
set_option maxRecDepth 20000 in
theorem ggX4_stopAny_X4_isIn : GoodIn wsX4_stopAny wsX4_isIn := goodIn_r _ [7] (by decide +kernel) (by decide +kernel)
set_option maxRecDepth 20000 in
theorem gX4_stopAny_X4_isIn : GoodIn wsX4_stopAny (va_wsS RX4 46 yX4_isIn wsX4_isIn) := goodIn_app (goodIn_of _ (by decide +kernel)) ggX4_stopAny_X4_isIn
set_option maxRecDepth 20000 in
theorem ggX4_stopAny_X4_goOn : GoodIn wsX4_stopAny wsX4_goOn := goodIn_r _ [40, 1, 2, 41, 42, 43, 6, 44, 45, 46, 47, 48, 49, 4, 5, 7, 37, 38, 39, 11, 12, 3, 13, 14, 15, 16, 17, 18, 19, 20, 21, 22, 23, 24, 25, 8, 9, 10, 26, 27, 28, 29, 30, 31, 32, 33, 34, 35, 36, 0, 50, 51, 52, 53, 54, 55, 56, 57, 58, 59, 60, 61, 62, 63, 64, 65, 66, 67, 68, 69, 70, 71, 72, 73, 74, 75, 76, 77] (by decide +kernel) (by decide +kernel)
set_option maxRecDepth 20000 in
theorem gX4_stopAny_X4_goOn : GoodIn wsX4_stopAny (wsV RX4 39 RX4 yX4_goOn wsX4_goOn) := goodIn_app (goodIn_of _ (by decide +kernel)) ggX4_stopAny_X4_goOn
theorem dX4_stopAny_0 : decode cX4_stopAny 0 = .ok (.iconst 0, 1) := by decide +kernel
theorem dX4_stopAny_1 : decode cX4_stopAny 1 = .ok (.istore 4, 2) := by decide +kernel
theorem dX4_stopAny_3 : decode cX4_stopAny 3 = .ok (.iconst 0, 1) := by decide +kernel
theorem dX4_stopAny_4 : decode cX4_stopAny 4 = .ok (.istore 5, 2) := by decide +kernel
theorem dX4_stopAny_6 : decode cX4_stopAny 6 = .ok (.iload 5, 2) := by decide +kernel
theorem dX4_stopAny_8 : decode cX4_stopAny 8 = .ok (.aload_n 0, 1) := by decide +kernel
theorem dX4_stopAny_9 : decode cX4_stopAny 9 = .ok (.getfield 12, 3) := by decide +kernel
theorem dX4_stopAny_12 : decode cX4_stopAny 12 = .ok (.getfield 36, 3) := by decide +kernel
theorem dX4_stopAny_15 : decode cX4_stopAny 15 = .ok (.if_icmp .ge 48, 3) := by decide +kernel
theorem dX4_stopAny_18 : decode cX4_stopAny 18 = .ok (.iload_n 2, 1) := by decide +kernel
theorem dX4_stopAny_19 : decode cX4_stopAny 19 = .ok (.iload 5, 2) := by decide +kernel
theorem dX4_stopAny_21 : decode cX4_stopAny 21 = .ok (.invokestatic 46, 3) := by decide +kernel
theorem dX4_stopAny_24 : decode cX4_stopAny 24 = .ok (.ifCond .eq 33, 3) := by decide +kernel
theorem dX4_stopAny_27 : decode cX4_stopAny 27 = .ok (.aload_n 0, 1) := by decide +kernel
theorem dX4_stopAny_28 : decode cX4_stopAny 28 = .ok (.getfield 12, 3) := by decide +kernel
theorem dX4_stopAny_31 : decode cX4_stopAny 31 = .ok (.getfield 58, 3) := by decide +kernel
theorem dX4_stopAny_34 : decode cX4_stopAny 34 = .ok (.iload 5, 2) := by decide +kernel
theorem dX4_stopAny_36 : decode cX4_stopAny 36 = .ok (.iaload, 1) := by decide +kernel
theorem dX4_stopAny_37 : decode cX4_stopAny 37 = .ok (.iload_n 1, 1) := by decide +kernel
theorem dX4_stopAny_38 : decode cX4_stopAny 38 = .ok (.if_icmp .eq 19, 3) := by decide +kernel
theorem dX4_stopAny_41 : decode cX4_stopAny 41 = .ok (.iconst 1, 1) := by decide +kernel
theorem dX4_stopAny_42 : decode cX4_stopAny 42 = .ok (.istore 4, 2) := by decide +kernel
theorem dX4_stopAny_44 : decode cX4_stopAny 44 = .ok (.aload_n 0, 1) := by decide +kernel
theorem dX4_stopAny_45 : decode cX4_stopAny 45 = .ok (.iload_n 2, 1) := by decide +kernel
theorem dX4_stopAny_46 : decode cX4_stopAny 46 = .ok (.iconst 1, 1) := by decide +kernel
theorem dX4_stopAny_47 : decode cX4_stopAny 47 = .ok (.iload 5, 2) := by decide +kernel
theorem dX4_stopAny_49 : decode cX4_stopAny 49 = .ok (.ishl, 1) := by decide +kernel
theorem dX4_stopAny_50 : decode cX4_stopAny 50 = .ok (.iconst (-1), 1) := by decide +kernel
theorem dX4_stopAny_51 : decode cX4_stopAny 51 = .ok (.ixor, 1) := by decide +kernel
theorem dX4_stopAny_52 : decode cX4_stopAny 52 = .ok (.iand, 1) := by decide +kernel
theorem dX4_stopAny_53 : decode cX4_stopAny 53 = .ok (.iload_n 3, 1) := by decide +kernel
theorem dX4_stopAny_54 : decode cX4_stopAny 54 = .ok (.invokevirtual 39, 3) := by decide +kernel
theorem dX4_stopAny_57 : decode cX4_stopAny 57 = .ok (.iinc 5 1, 3) := by decide +kernel
theorem dX4_stopAny_60 : decode cX4_stopAny 60 = .ok (.goto (-54), 3) := by decide +kernel
theorem dX4_stopAny_63 : decode cX4_stopAny 63 = .ok (.iload 4, 2) := by decide +kernel
theorem dX4_stopAny_65 : decode cX4_stopAny 65 = .ok (.ifCond .ne 9, 3) := by decide +kernel
theorem dX4_stopAny_68 : decode cX4_stopAny 68 = .ok (.aload_n 0, 1) := by decide +kernel
theorem dX4_stopAny_69 : decode cX4_stopAny 69 = .ok (.iload_n 2, 1) := by decide +kernel
theorem dX4_stopAny_70 : decode cX4_stopAny 70 = .ok (.iload_n 3, 1) := by decide +kernel
theorem dX4_stopAny_71 : decode cX4_stopAny 71 = .ok (.invokevirtual 39, 3) := by decide +kernel
theorem dX4_stopAny_74 : decode cX4_stopAny 74 = .ok (.return_, 1) := by decide +kernel
set_option maxRecDepth 20000 in
theorem ggX4_doubleAny_X4_goOn : GoodIn wsX4_doubleAny wsX4_goOn := goodIn_r _ [39, 1, 2, 40, 41, 42, 7, 43, 44, 45, 46, 47, 48, 8, 9, 10, 18, 19, 20, 21, 22, 23, 24, 25, 26, 27, 28, 29, 30, 31, 32, 14, 33, 34, 35, 4, 5, 6, 36, 37, 38, 0, 3, 11, 12, 13, 15, 16, 17, 49, 50, 51, 52, 53, 54, 55, 56, 57, 58, 59, 60, 61, 62, 63, 64, 65, 66, 67, 68, 69, 70, 71, 72, 73, 74, 75, 76, 77] (by decide +kernel) (by decide +kernel)
set_option maxRecDepth 20000 in
theorem gX4_doubleAny_X4_goOn : GoodIn wsX4_doubleAny (wsV RX4 39 RX4 yX4_goOn wsX4_goOn) := goodIn_app (goodIn_of _ (by decide +kernel)) ggX4_doubleAny_X4_goOn
set_option maxRecDepth 20000 in
theorem ggX4_doubleAny_X4_isIn : GoodIn wsX4_doubleAny wsX4_isIn := goodIn_r _ [10] (by decide +kernel) (by decide +kernel)
set_option maxRecDepth 20000 in
theorem gX4_doubleAny_X4_isIn : GoodIn wsX4_doubleAny (va_wsS RX4 46 yX4_isIn wsX4_isIn) := goodIn_app (goodIn_of _ (by decide +kernel)) ggX4_doubleAny_X4_isIn
set_option maxRecDepth 20000 in
theorem ggX4_doubleAny_X6_makeTwice : GoodIn wsX4_doubleAny wsX6_makeTwice := goodIn_r _ [15, 16, 17, 71, 72, 73, 74, 75, 76, 77] (by decide +kernel) (by decide +kernel)
set_option maxRecDepth 20000 in
theorem gX4_doubleAny_X6_makeTwice : GoodIn wsX4_doubleAny (wsV RX4 77 RX6 yX6_makeTwice wsX6_makeTwice) := goodIn_app (goodIn_of _ (by decide +kernel)) ggX4_doubleAny_X6_makeTwice
set_option maxRecDepth 20000 in
theorem ggX4_doubleAny_X4_doNext : GoodIn wsX4_doubleAny wsX4_doNext := goodIn_r _ [21, 1, 22, 23, 24, 25, 26, 7, 27, 28, 29, 30, 31, 32, 14, 33, 34, 35, 4, 5, 6, 36, 37, 38, 0, 2, 3, 8, 9, 10, 11, 12, 13, 15, 16, 17, 18, 19, 20, 39, 40, 41, 42, 43, 44, 45, 46, 47, 48, 49, 50, 51, 52, 53, 54, 55, 56, 57, 58, 59, 60, 61, 62, 63, 64, 65, 66, 67, 68, 69, 70, 71, 72, 73, 74, 75, 76, 77] (by decide +kernel) (by decide +kernel)
set_option maxRecDepth 20000 in
theorem gX4_doubleAny_X4_doNext : GoodIn wsX4_doubleAny (wsV RX4 50 RX4 yX4_doNext wsX4_doNext) := goodIn_app (goodIn_of _ (by decide +kernel)) ggX4_doubleAny_X4_doNext
theorem dX4_doubleAny_0 : decode cX4_doubleAny 0 = .ok (.iload_n 1, 1) := by decide +kernel
theorem dX4_doubleAny_1 : decode cX4_doubleAny 1 = .ok (.ifCond .ne 9, 3) := by decide +kernel
theorem dX4_doubleAny_4 : decode cX4_doubleAny 4 = .ok (.aload_n 0, 1) := by decide +kernel
theorem dX4_doubleAny_5 : decode cX4_doubleAny 5 = .ok (.iload_n 1, 1) := by decide +kernel
theorem dX4_doubleAny_6 : decode cX4_doubleAny 6 = .ok (.iload_n 2, 1) := by decide +kernel
theorem dX4_doubleAny_7 : decode cX4_doubleAny 7 = .ok (.invokevirtual 39, 3) := by decide +kernel
theorem dX4_doubleAny_10 : decode cX4_doubleAny 10 = .ok (.iconst 0, 1) := by decide +kernel
theorem dX4_doubleAny_11 : decode cX4_doubleAny 11 = .ok (.istore_n 3, 1) := by decide +kernel
theorem dX4_doubleAny_12 : decode cX4_doubleAny 12 = .ok (.iload_n 3, 1) := by decide +kernel
theorem dX4_doubleAny_13 : decode cX4_doubleAny 13 = .ok (.aload_n 0, 1) := by decide +kernel
theorem dX4_doubleAny_14 : decode cX4_doubleAny 14 = .ok (.getfield 12, 3) := by decide +kernel
theorem dX4_doubleAny_17 : decode cX4_doubleAny 17 = .ok (.getfield 36, 3) := by decide +kernel
theorem dX4_doubleAny_20 : decode cX4_doubleAny 20 = .ok (.if_icmp .ge 65, 3) := by decide +kernel
theorem dX4_doubleAny_23 : decode cX4_doubleAny 23 = .ok (.aload_n 0, 1) := by decide +kernel
theorem dX4_doubleAny_24 : decode cX4_doubleAny 24 = .ok (.getfield 12, 3) := by decide +kernel
theorem dX4_doubleAny_27 : decode cX4_doubleAny 27 = .ok (.getfield 74, 3) := by decide +kernel
theorem dX4_doubleAny_30 : decode cX4_doubleAny 30 = .ok (.iload_n 3, 1) := by decide +kernel
theorem dX4_doubleAny_31 : decode cX4_doubleAny 31 = .ok (.iaload, 1) := by decide +kernel
theorem dX4_doubleAny_32 : decode cX4_doubleAny 32 = .ok (.istore 4, 2) := by decide +kernel
theorem dX4_doubleAny_34 : decode cX4_doubleAny 34 = .ok (.iload_n 1, 1) := by decide +kernel
theorem dX4_doubleAny_35 : decode cX4_doubleAny 35 = .ok (.iload_n 3, 1) := by decide +kernel
theorem dX4_doubleAny_36 : decode cX4_doubleAny 36 = .ok (.invokestatic 46, 3) := by decide +kernel
theorem dX4_doubleAny_39 : decode cX4_doubleAny 39 = .ok (.ifCond .eq 40, 3) := by decide +kernel
theorem dX4_doubleAny_42 : decode cX4_doubleAny 42 = .ok (.aload_n 0, 1) := by decide +kernel
theorem dX4_doubleAny_43 : decode cX4_doubleAny 43 = .ok (.getfield 12, 3) := by decide +kernel
theorem dX4_doubleAny_46 : decode cX4_doubleAny 46 = .ok (.iload_n 3, 1) := by decide +kernel
theorem dX4_doubleAny_47 : decode cX4_doubleAny 47 = .ok (.invokevirtual 77, 3) := by decide +kernel
theorem dX4_doubleAny_50 : decode cX4_doubleAny 50 = .ok (.ifCond .eq 29, 3) := by decide +kernel
theorem dX4_doubleAny_53 : decode cX4_doubleAny 53 = .ok (.aload_n 0, 1) := by decide +kernel
theorem dX4_doubleAny_54 : decode cX4_doubleAny 54 = .ok (.iload_n 3, 1) := by decide +kernel
theorem dX4_doubleAny_55 : decode cX4_doubleAny 55 = .ok (.iload_n 1, 1) := by decide +kernel
theorem dX4_doubleAny_56 : decode cX4_doubleAny 56 = .ok (.iconst 1, 1) := by decide +kernel
theorem dX4_doubleAny_57 : decode cX4_doubleAny 57 = .ok (.iload_n 3, 1) := by decide +kernel
theorem dX4_doubleAny_58 : decode cX4_doubleAny 58 = .ok (.ishl, 1) := by decide +kernel
theorem dX4_doubleAny_59 : decode cX4_doubleAny 59 = .ok (.iconst (-1), 1) := by decide +kernel
theorem dX4_doubleAny_60 : decode cX4_doubleAny 60 = .ok (.ixor, 1) := by decide +kernel
theorem dX4_doubleAny_61 : decode cX4_doubleAny 61 = .ok (.iand, 1) := by decide +kernel
theorem dX4_doubleAny_62 : decode cX4_doubleAny 62 = .ok (.iload_n 2, 1) := by decide +kernel
theorem dX4_doubleAny_63 : decode cX4_doubleAny 63 = .ok (.iconst 1, 1) := by decide +kernel
theorem dX4_doubleAny_64 : decode cX4_doubleAny 64 = .ok (.iadd, 1) := by decide +kernel
theorem dX4_doubleAny_65 : decode cX4_doubleAny 65 = .ok (.invokevirtual 50, 3) := by decide +kernel
theorem dX4_doubleAny_68 : decode cX4_doubleAny 68 = .ok (.aload_n 0, 1) := by decide +kernel
theorem dX4_doubleAny_69 : decode cX4_doubleAny 69 = .ok (.getfield 12, 3) := by decide +kernel
theorem dX4_doubleAny_72 : decode cX4_doubleAny 72 = .ok (.getfield 74, 3) := by decide +kernel
theorem dX4_doubleAny_75 : decode cX4_doubleAny 75 = .ok (.iload_n 3, 1) := by decide +kernel
theorem dX4_doubleAny_76 : decode cX4_doubleAny 76 = .ok (.iload 4, 2) := by decide +kernel
theorem dX4_doubleAny_78 : decode cX4_doubleAny 78 = .ok (.iastore, 1) := by decide +kernel
theorem dX4_doubleAny_79 : decode cX4_doubleAny 79 = .ok (.iinc 3 1, 3) := by decide +kernel
theorem dX4_doubleAny_82 : decode cX4_doubleAny 82 = .ok (.goto (-70), 3) := by decide +kernel
theorem dX4_doubleAny_85 : decode cX4_doubleAny 85 = .ok (.return_, 1) := by decide +kernel
set_option maxRecDepth 20000 in
theorem ggX4_touch_X6_touch : GoodIn wsX4_touch wsX6_touch := goodIn_r _ [9, 10, 11, 12, 13, 14, 15, 16, 17, 18, 19, 20, 71, 72, 73, 74, 75, 76, 77] (by decide +kernel) (by decide +kernel)
set_option maxRecDepth 20000 in
theorem gX4_touch_X6_touch : GoodIn wsX4_touch (wsV RX4 90 RX6 yX6_touch wsX6_touch) := goodIn_app (goodIn_of _ (by decide +kernel)) ggX4_touch_X6_touch
set_option maxRecDepth 20000 in
theorem ggX4_touch_X4_goOn : GoodIn wsX4_touch wsX4_goOn := goodIn_r _ [56, 1, 43, 57, 58, 59, 24, 60, 3, 61, 62, 63, 64, 45, 46, 47, 53, 54, 55, 25, 26, 27, 28, 29, 30, 31, 32, 33, 34, 35, 36, 8, 37, 38, 14, 21, 22, 23, 39, 40, 41, 42, 44, 48, 49, 50, 51, 11, 52, 65, 0, 2, 4, 5, 6, 7, 9, 10, 12, 13, 15, 16, 17, 18, 19, 20, 66, 67, 68, 69, 70, 71, 72, 73, 74, 75, 76, 77] (by decide +kernel) (by decide +kernel)
set_option maxRecDepth 20000 in
theorem gX4_touch_X4_goOn : GoodIn wsX4_touch (wsV RX4 39 RX4 yX4_goOn wsX4_goOn) := goodIn_app (goodIn_of _ (by decide +kernel)) ggX4_touch_X4_goOn
theorem dX4_touch_0 : decode cX4_touch 0 = .ok (.aload_n 0, 1) := by decide +kernel
theorem dX4_touch_1 : decode cX4_touch 1 = .ok (.getfield 12, 3) := by decide +kernel
theorem dX4_touch_4 : decode cX4_touch 4 = .ok (.getfield 81, 3) := by decide +kernel
theorem dX4_touch_7 : decode cX4_touch 7 = .ok (.iload_n 1, 1) := by decide +kernel
theorem dX4_touch_8 : decode cX4_touch 8 = .ok (.iaload, 1) := by decide +kernel
theorem dX4_touch_9 : decode cX4_touch 9 = .ok (.istore 4, 2) := by decide +kernel
theorem dX4_touch_11 : decode cX4_touch 11 = .ok (.aload_n 0, 1) := by decide +kernel
theorem dX4_touch_12 : decode cX4_touch 12 = .ok (.getfield 12, 3) := by decide +kernel
theorem dX4_touch_15 : decode cX4_touch 15 = .ok (.getfield 84, 3) := by decide +kernel
theorem dX4_touch_18 : decode cX4_touch 18 = .ok (.iload 4, 2) := by decide +kernel
theorem dX4_touch_20 : decode cX4_touch 20 = .ok (.iaload, 1) := by decide +kernel
theorem dX4_touch_21 : decode cX4_touch 21 = .ok (.istore 5, 2) := by decide +kernel
theorem dX4_touch_23 : decode cX4_touch 23 = .ok (.aload_n 0, 1) := by decide +kernel
theorem dX4_touch_24 : decode cX4_touch 24 = .ok (.getfield 12, 3) := by decide +kernel
theorem dX4_touch_27 : decode cX4_touch 27 = .ok (.getfield 87, 3) := by decide +kernel
theorem dX4_touch_30 : decode cX4_touch 30 = .ok (.iload 4, 2) := by decide +kernel
theorem dX4_touch_32 : decode cX4_touch 32 = .ok (.iaload, 1) := by decide +kernel
theorem dX4_touch_33 : decode cX4_touch 33 = .ok (.istore 6, 2) := by decide +kernel
theorem dX4_touch_35 : decode cX4_touch 35 = .ok (.aload_n 0, 1) := by decide +kernel
theorem dX4_touch_36 : decode cX4_touch 36 = .ok (.getfield 12, 3) := by decide +kernel
theorem dX4_touch_39 : decode cX4_touch 39 = .ok (.iload_n 1, 1) := by decide +kernel
theorem dX4_touch_40 : decode cX4_touch 40 = .ok (.invokevirtual 90, 3) := by decide +kernel
theorem dX4_touch_43 : decode cX4_touch 43 = .ok (.ifCond .eq 33, 3) := by decide +kernel
