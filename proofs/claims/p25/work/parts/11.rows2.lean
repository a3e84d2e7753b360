theorem dX4_touch_46 : decode cX4_touch 46 = .ok (.aload_n 0, 1) := by decide +kernel
theorem dX4_touch_47 : decode cX4_touch 47 = .ok (.iload_n 2, 1) := by decide +kernel
theorem dX4_touch_48 : decode cX4_touch 48 = .ok (.iload_n 3, 1) := by decide +kernel
theorem dX4_touch_49 : decode cX4_touch 49 = .ok (.invokevirtual 39, 3) := by decide +kernel
theorem dX4_touch_52 : decode cX4_touch 52 = .ok (.aload_n 0, 1) := by decide +kernel
theorem dX4_touch_53 : decode cX4_touch 53 = .ok (.getfield 12, 3) := by decide +kernel
theorem dX4_touch_56 : decode cX4_touch 56 = .ok (.getfield 84, 3) := by decide +kernel
theorem dX4_touch_59 : decode cX4_touch 59 = .ok (.iload 4, 2) := by decide +kernel
theorem dX4_touch_61 : decode cX4_touch 61 = .ok (.iload 5, 2) := by decide +kernel
theorem dX4_touch_63 : decode cX4_touch 63 = .ok (.iastore, 1) := by decide +kernel
theorem dX4_touch_64 : decode cX4_touch 64 = .ok (.aload_n 0, 1) := by decide +kernel
theorem dX4_touch_65 : decode cX4_touch 65 = .ok (.getfield 12, 3) := by decide +kernel
theorem dX4_touch_68 : decode cX4_touch 68 = .ok (.getfield 87, 3) := by decide +kernel
theorem dX4_touch_71 : decode cX4_touch 71 = .ok (.iload 4, 2) := by decide +kernel
theorem dX4_touch_73 : decode cX4_touch 73 = .ok (.iload 6, 2) := by decide +kernel
theorem dX4_touch_75 : decode cX4_touch 75 = .ok (.iastore, 1) := by decide +kernel
theorem dX4_touch_76 : decode cX4_touch 76 = .ok (.return_, 1) := by decide +kernel
theorem dX4_note_0 : decode cX4_note 0 = .ok (.aload_n 0, 1) := by decide +kernel
theorem dX4_note_1 : decode cX4_note 1 = .ok (.getfield 12, 3) := by decide +kernel
theorem dX4_note_4 : decode cX4_note 4 = .ok (.getfield 84, 3) := by decide +kernel
theorem dX4_note_7 : decode cX4_note 7 = .ok (.aload_n 0, 1) := by decide +kernel
theorem dX4_note_8 : decode cX4_note 8 = .ok (.getfield 22, 3) := by decide +kernel
theorem dX4_note_11 : decode cX4_note 11 = .ok (.iaload, 1) := by decide +kernel
theorem dX4_note_12 : decode cX4_note 12 = .ok (.istore_n 1, 1) := by decide +kernel
theorem dX4_note_13 : decode cX4_note 13 = .ok (.aload_n 0, 1) := by decide +kernel
theorem dX4_note_14 : decode cX4_note 14 = .ok (.getfield 30, 3) := by decide +kernel
theorem dX4_note_17 : decode cX4_note 17 = .ok (.ifCond .eq 29, 3) := by decide +kernel
theorem dX4_note_20 : decode cX4_note 20 = .ok (.aload_n 0, 1) := by decide +kernel
theorem dX4_note_21 : decode cX4_note 21 = .ok (.getfield 26, 3) := by decide +kernel
theorem dX4_note_24 : decode cX4_note 24 = .ok (.ifCond .eq 14, 3) := by decide +kernel
theorem dX4_note_27 : decode cX4_note 27 = .ok (.iload_n 1, 1) := by decide +kernel
theorem dX4_note_28 : decode cX4_note 28 = .ok (.aload_n 0, 1) := by decide +kernel
theorem dX4_note_29 : decode cX4_note 29 = .ok (.getfield 33, 3) := by decide +kernel
theorem dX4_note_32 : decode cX4_note 32 = .ok (.if_icmp .le 19, 3) := by decide +kernel
theorem dX4_note_35 : decode cX4_note 35 = .ok (.goto 11, 3) := by decide +kernel
theorem dX4_note_38 : decode cX4_note 38 = .ok (.iload_n 1, 1) := by decide +kernel
theorem dX4_note_39 : decode cX4_note 39 = .ok (.aload_n 0, 1) := by decide +kernel
theorem dX4_note_40 : decode cX4_note 40 = .ok (.getfield 33, 3) := by decide +kernel
theorem dX4_note_43 : decode cX4_note 43 = .ok (.if_icmp .ge 8, 3) := by decide +kernel
theorem dX4_note_46 : decode cX4_note 46 = .ok (.aload_n 0, 1) := by decide +kernel
theorem dX4_note_47 : decode cX4_note 47 = .ok (.iload_n 1, 1) := by decide +kernel
theorem dX4_note_48 : decode cX4_note 48 = .ok (.putfield 33, 3) := by decide +kernel
theorem dX4_note_51 : decode cX4_note 51 = .ok (.aload_n 0, 1) := by decide +kernel
theorem dX4_note_52 : decode cX4_note 52 = .ok (.iconst 1, 1) := by decide +kernel
theorem dX4_note_53 : decode cX4_note 53 = .ok (.putfield 30, 3) := by decide +kernel
theorem dX4_note_56 : decode cX4_note 56 = .ok (.return_, 1) := by decide +kernel
theorem dX4_isIn_0 : decode cX4_isIn 0 = .ok (.iload_n 0, 1) := by decide +kernel
theorem dX4_isIn_1 : decode cX4_isIn 1 = .ok (.iload_n 1, 1) := by decide +kernel
theorem dX4_isIn_2 : decode cX4_isIn 2 = .ok (.ishr, 1) := by decide +kernel
theorem dX4_isIn_3 : decode cX4_isIn 3 = .ok (.iconst 1, 1) := by decide +kernel
theorem dX4_isIn_4 : decode cX4_isIn 4 = .ok (.iand, 1) := by decide +kernel
theorem dX4_isIn_5 : decode cX4_isIn 5 = .ok (.iconst 1, 1) := by decide +kernel
theorem dX4_isIn_6 : decode cX4_isIn 6 = .ok (.if_icmp .ne 7, 3) := by decide +kernel
theorem dX4_isIn_9 : decode cX4_isIn 9 = .ok (.iconst 1, 1) := by decide +kernel
theorem dX4_isIn_10 : decode cX4_isIn 10 = .ok (.goto 4, 3) := by decide +kernel
theorem dX4_isIn_13 : decode cX4_isIn 13 = .ok (.iconst 0, 1) := by decide +kernel
theorem dX4_isIn_14 : decode cX4_isIn 14 = .ok (.ireturn, 1) := by decide +kernel
theorem dX5_init_0 : decode cX5_init 0 = .ok (.aload_n 0, 1) := by decide +kernel
theorem dX5_init_1 : decode cX5_init 1 = .ok (.invokespecial 3, 3) := by decide +kernel
theorem dX5_init_4 : decode cX5_init 4 = .ok (.aload_n 0, 1) := by decide +kernel
theorem dX5_init_5 : decode cX5_init 5 = .ok (.bipush 6, 2) := by decide +kernel
theorem dX5_init_7 : decode cX5_init 7 = .ok (.bipush 20, 2) := by decide +kernel
theorem dX5_init_9 : decode cX5_init 9 = .ok (.multianewarray 9 2, 4) := by decide +kernel
theorem dX5_init_13 : decode cX5_init 13 = .ok (.putfield 11, 3) := by decide +kernel
theorem dX5_init_16 : decode cX5_init 16 = .ok (.aload_n 0, 1) := by decide +kernel
theorem dX5_init_17 : decode cX5_init 17 = .ok (.bipush 6, 2) := by decide +kernel
theorem dX5_init_19 : decode cX5_init 19 = .ok (.bipush 20, 2) := by decide +kernel
theorem dX5_init_21 : decode cX5_init 21 = .ok (.multianewarray 9 2, 4) := by decide +kernel
theorem dX5_init_25 : decode cX5_init 25 = .ok (.putfield 16, 3) := by decide +kernel
theorem dX5_init_28 : decode cX5_init 28 = .ok (.aload_n 0, 1) := by decide +kernel
theorem dX5_init_29 : decode cX5_init 29 = .ok (.bipush 6, 2) := by decide +kernel
theorem dX5_init_31 : decode cX5_init 31 = .ok (.newarray .int, 2) := by decide +kernel
theorem dX5_init_33 : decode cX5_init 33 = .ok (.putfield 19, 3) := by decide +kernel
theorem dX5_init_36 : decode cX5_init 36 = .ok (.return_, 1) := by decide +kernel
theorem dX5_countDecksWith_0 : decode cX5_countDecksWith 0 = .ok (.iconst 0, 1) := by decide +kernel
theorem dX5_countDecksWith_1 : decode cX5_countDecksWith 1 = .ok (.istore_n 2, 1) := by decide +kernel
theorem dX5_countDecksWith_2 : decode cX5_countDecksWith 2 = .ok (.iconst 0, 1) := by decide +kernel
theorem dX5_countDecksWith_3 : decode cX5_countDecksWith 3 = .ok (.istore_n 3, 1) := by decide +kernel
theorem dX5_countDecksWith_4 : decode cX5_countDecksWith 4 = .ok (.iload_n 3, 1) := by decide +kernel
theorem dX5_countDecksWith_5 : decode cX5_countDecksWith 5 = .ok (.bipush 6, 2) := by decide +kernel
theorem dX5_countDecksWith_7 : decode cX5_countDecksWith 7 = .ok (.if_icmp .ge 23, 3) := by decide +kernel
theorem dX5_countDecksWith_10 : decode cX5_countDecksWith 10 = .ok (.aload_n 0, 1) := by decide +kernel
theorem dX5_countDecksWith_11 : decode cX5_countDecksWith 11 = .ok (.getfield 16, 3) := by decide +kernel
theorem dX5_countDecksWith_14 : decode cX5_countDecksWith 14 = .ok (.iload_n 3, 1) := by decide +kernel
theorem dX5_countDecksWith_15 : decode cX5_countDecksWith 15 = .ok (.aaload, 1) := by decide +kernel
theorem dX5_countDecksWith_16 : decode cX5_countDecksWith 16 = .ok (.iload_n 1, 1) := by decide +kernel
theorem dX5_countDecksWith_17 : decode cX5_countDecksWith 17 = .ok (.iaload, 1) := by decide +kernel
theorem dX5_countDecksWith_18 : decode cX5_countDecksWith 18 = .ok (.ifCond .le 6, 3) := by decide +kernel
theorem dX5_countDecksWith_21 : decode cX5_countDecksWith 21 = .ok (.iinc 2 1, 3) := by decide +kernel
theorem dX5_countDecksWith_24 : decode cX5_countDecksWith 24 = .ok (.iinc 3 1, 3) := by decide +kernel
theorem dX5_countDecksWith_27 : decode cX5_countDecksWith 27 = .ok (.goto (-23), 3) := by decide +kernel
theorem dX5_countDecksWith_30 : decode cX5_countDecksWith 30 = .ok (.iload_n 2, 1) := by decide +kernel
theorem dX5_countDecksWith_31 : decode cX5_countDecksWith 31 = .ok (.ireturn, 1) := by decide +kernel
theorem dX5_isDeckFull_0 : decode cX5_isDeckFull 0 = .ok (.aload_n 0, 1) := by decide +kernel
theorem dX5_isDeckFull_1 : decode cX5_isDeckFull 1 = .ok (.getfield 19, 3) := by decide +kernel
theorem dX5_isDeckFull_4 : decode cX5_isDeckFull 4 = .ok (.iload_n 1, 1) := by decide +kernel
theorem dX5_isDeckFull_5 : decode cX5_isDeckFull 5 = .ok (.iaload, 1) := by decide +kernel
theorem dX5_isDeckFull_6 : decode cX5_isDeckFull 6 = .ok (.bipush 8, 2) := by decide +kernel
theorem dX5_isDeckFull_8 : decode cX5_isDeckFull 8 = .ok (.if_icmp .lt 7, 3) := by decide +kernel
theorem dX5_isDeckFull_11 : decode cX5_isDeckFull 11 = .ok (.iconst 1, 1) := by decide +kernel
theorem dX5_isDeckFull_12 : decode cX5_isDeckFull 12 = .ok (.goto 4, 3) := by decide +kernel
theorem dX5_isDeckFull_15 : decode cX5_isDeckFull 15 = .ok (.iconst 0, 1) := by decide +kernel
theorem dX5_isDeckFull_16 : decode cX5_isDeckFull 16 = .ok (.ireturn, 1) := by decide +kernel
set_option maxRecDepth 20000 in
theorem ggX5_mayTakeMore_X5_mostInDeck : GoodIn wsX5_mayTakeMore wsX5_mostInDeck := goodIn_r _ [6, 7, 8, 9, 10, 11, 12, 13, 14] (by decide +kernel) (by decide +kernel)
set_option maxRecDepth 20000 in
theorem gX5_mayTakeMore_X5_mostInDeck : GoodIn wsX5_mayTakeMore (wsV RX5 23 RX5 yX5_mostInDeck wsX5_mostInDeck) := goodIn_app (goodIn_of _ (by decide +kernel)) ggX5_mayTakeMore_X5_mostInDeck
theorem dX5_mayTakeMore_0 : decode cX5_mayTakeMore 0 = .ok (.aload_n 0, 1) := by decide +kernel
theorem dX5_mayTakeMore_1 : decode cX5_mayTakeMore 1 = .ok (.getfield 16, 3) := by decide +kernel
theorem dX5_mayTakeMore_4 : decode cX5_mayTakeMore 4 = .ok (.iload_n 1, 1) := by decide +kernel
theorem dX5_mayTakeMore_5 : decode cX5_mayTakeMore 5 = .ok (.aaload, 1) := by decide +kernel
theorem dX5_mayTakeMore_6 : decode cX5_mayTakeMore 6 = .ok (.iload_n 2, 1) := by decide +kernel
theorem dX5_mayTakeMore_7 : decode cX5_mayTakeMore 7 = .ok (.iaload, 1) := by decide +kernel
theorem dX5_mayTakeMore_8 : decode cX5_mayTakeMore 8 = .ok (.aload_n 0, 1) := by decide +kernel
theorem dX5_mayTakeMore_9 : decode cX5_mayTakeMore 9 = .ok (.iload_n 1, 1) := by decide +kernel
theorem dX5_mayTakeMore_10 : decode cX5_mayTakeMore 10 = .ok (.iload_n 2, 1) := by decide +kernel
theorem dX5_mayTakeMore_11 : decode cX5_mayTakeMore 11 = .ok (.invokevirtual 23, 3) := by decide +kernel
theorem dX5_mayTakeMore_14 : decode cX5_mayTakeMore 14 = .ok (.if_icmp .ge 7, 3) := by decide +kernel
theorem dX5_mayTakeMore_17 : decode cX5_mayTakeMore 17 = .ok (.iconst 1, 1) := by decide +kernel
theorem dX5_mayTakeMore_18 : decode cX5_mayTakeMore 18 = .ok (.goto 4, 3) := by decide +kernel
theorem dX5_mayTakeMore_21 : decode cX5_mayTakeMore 21 = .ok (.iconst 0, 1) := by decide +kernel
theorem dX5_mayTakeMore_22 : decode cX5_mayTakeMore 22 = .ok (.ireturn, 1) := by decide +kernel
theorem dX5_addToDeck_0 : decode cX5_addToDeck 0 = .ok (.aload_n 0, 1) := by decide +kernel
theorem dX5_addToDeck_1 : decode cX5_addToDeck 1 = .ok (.getfield 16, 3) := by decide +kernel
theorem dX5_addToDeck_4 : decode cX5_addToDeck 4 = .ok (.iload_n 1, 1) := by decide +kernel
theorem dX5_addToDeck_5 : decode cX5_addToDeck 5 = .ok (.aaload, 1) := by decide +kernel
theorem dX5_addToDeck_6 : decode cX5_addToDeck 6 = .ok (.iload_n 2, 1) := by decide +kernel
theorem dX5_addToDeck_7 : decode cX5_addToDeck 7 = .ok (.dup2, 1) := by decide +kernel
theorem dX5_addToDeck_8 : decode cX5_addToDeck 8 = .ok (.iaload, 1) := by decide +kernel
theorem dX5_addToDeck_9 : decode cX5_addToDeck 9 = .ok (.iconst 1, 1) := by decide +kernel
theorem dX5_addToDeck_10 : decode cX5_addToDeck 10 = .ok (.iadd, 1) := by decide +kernel
theorem dX5_addToDeck_11 : decode cX5_addToDeck 11 = .ok (.iastore, 1) := by decide +kernel
theorem dX5_addToDeck_12 : decode cX5_addToDeck 12 = .ok (.aload_n 0, 1) := by decide +kernel
theorem dX5_addToDeck_13 : decode cX5_addToDeck 13 = .ok (.getfield 19, 3) := by decide +kernel
theorem dX5_addToDeck_16 : decode cX5_addToDeck 16 = .ok (.iload_n 1, 1) := by decide +kernel
theorem dX5_addToDeck_17 : decode cX5_addToDeck 17 = .ok (.dup2, 1) := by decide +kernel
theorem dX5_addToDeck_18 : decode cX5_addToDeck 18 = .ok (.iaload, 1) := by decide +kernel
theorem dX5_addToDeck_19 : decode cX5_addToDeck 19 = .ok (.iconst 1, 1) := by decide +kernel
theorem dX5_addToDeck_20 : decode cX5_addToDeck 20 = .ok (.iadd, 1) := by decide +kernel
theorem dX5_addToDeck_21 : decode cX5_addToDeck 21 = .ok (.iastore, 1) := by decide +kernel
theorem dX5_addToDeck_22 : decode cX5_addToDeck 22 = .ok (.aload_n 0, 1) := by decide +kernel
theorem dX5_addToDeck_23 : decode cX5_addToDeck 23 = .ok (.getfield 19, 3) := by decide +kernel
theorem dX5_addToDeck_26 : decode cX5_addToDeck 26 = .ok (.iload_n 1, 1) := by decide +kernel
theorem dX5_addToDeck_27 : decode cX5_addToDeck 27 = .ok (.iaload, 1) := by decide +kernel
theorem dX5_addToDeck_28 : decode cX5_addToDeck 28 = .ok (.ireturn, 1) := by decide +kernel
set_option maxRecDepth 20000 in
theorem ggX5_isDeckGood_X5_mostInDeck : GoodIn wsX5_isDeckGood wsX5_mostInDeck := goodIn_r _ [7, 8, 9, 10, 11, 12, 19, 20, 21] (by decide +kernel) (by decide +kernel)
set_option maxRecDepth 20000 in
theorem gX5_isDeckGood_X5_mostInDeck : GoodIn wsX5_isDeckGood (wsV RX5 23 RX5 yX5_mostInDeck wsX5_mostInDeck) := goodIn_app (goodIn_of _ (by decide +kernel)) ggX5_isDeckGood_X5_mostInDeck
set_option maxRecDepth 20000 in
theorem ggX5_isDeckGood_X2_isBanned : GoodIn wsX5_isDeckGood wsX2_isBanned := goodIn_r _ [17, 18, 22, 23, 24, 25] (by decide +kernel) (by decide +kernel)
set_option maxRecDepth 20000 in
theorem gX5_isDeckGood_X2_isBanned : GoodIn wsX5_isDeckGood (wsV RX5 27 RX2 yX2_isBanned wsX2_isBanned) := goodIn_app (goodIn_of _ (by decide +kernel)) ggX5_isDeckGood_X2_isBanned
theorem dX5_isDeckGood_0 : decode cX5_isDeckGood 0 = .ok (.aload_n 0, 1) := by decide +kernel
theorem dX5_isDeckGood_1 : decode cX5_isDeckGood 1 = .ok (.getfield 19, 3) := by decide +kernel
theorem dX5_isDeckGood_4 : decode cX5_isDeckGood 4 = .ok (.iload_n 1, 1) := by decide +kernel
theorem dX5_isDeckGood_5 : decode cX5_isDeckGood 5 = .ok (.iaload, 1) := by decide +kernel
theorem dX5_isDeckGood_6 : decode cX5_isDeckGood 6 = .ok (.iconst 4, 1) := by decide +kernel
theorem dX5_isDeckGood_7 : decode cX5_isDeckGood 7 = .ok (.if_icmp .ge 5, 3) := by decide +kernel
theorem dX5_isDeckGood_10 : decode cX5_isDeckGood 10 = .ok (.iconst 0, 1) := by decide +kernel
theorem dX5_isDeckGood_11 : decode cX5_isDeckGood 11 = .ok (.ireturn, 1) := by decide +kernel
theorem dX5_isDeckGood_12 : decode cX5_isDeckGood 12 = .ok (.iconst 0, 1) := by decide +kernel
theorem dX5_isDeckGood_13 : decode cX5_isDeckGood 13 = .ok (.istore 4, 2) := by decide +kernel
theorem dX5_isDeckGood_15 : decode cX5_isDeckGood 15 = .ok (.iload 4, 2) := by decide +kernel
theorem dX5_isDeckGood_17 : decode cX5_isDeckGood 17 = .ok (.bipush 20, 2) := by decide +kernel
theorem dX5_isDeckGood_19 : decode cX5_isDeckGood 19 = .ok (.if_icmp .ge 64, 3) := by decide +kernel
theorem dX5_isDeckGood_22 : decode cX5_isDeckGood 22 = .ok (.aload_n 0, 1) := by decide +kernel
theorem dX5_isDeckGood_23 : decode cX5_isDeckGood 23 = .ok (.getfield 16, 3) := by decide +kernel
theorem dX5_isDeckGood_26 : decode cX5_isDeckGood 26 = .ok (.iload_n 1, 1) := by decide +kernel
theorem dX5_isDeckGood_27 : decode cX5_isDeckGood 27 = .ok (.aaload, 1) := by decide +kernel
theorem dX5_isDeckGood_28 : decode cX5_isDeckGood 28 = .ok (.iload 4, 2) := by decide +kernel
theorem dX5_isDeckGood_30 : decode cX5_isDeckGood 30 = .ok (.iaload, 1) := by decide +kernel
theorem dX5_isDeckGood_31 : decode cX5_isDeckGood 31 = .ok (.aload_n 0, 1) := by decide +kernel
theorem dX5_isDeckGood_32 : decode cX5_isDeckGood 32 = .ok (.iload_n 1, 1) := by decide +kernel
theorem dX5_isDeckGood_33 : decode cX5_isDeckGood 33 = .ok (.iload 4, 2) := by decide +kernel
theorem dX5_isDeckGood_35 : decode cX5_isDeckGood 35 = .ok (.invokevirtual 23, 3) := by decide +kernel
theorem dX5_isDeckGood_38 : decode cX5_isDeckGood 38 = .ok (.if_icmp .le 7, 3) := by decide +kernel
theorem dX5_isDeckGood_41 : decode cX5_isDeckGood 41 = .ok (.iconst 1, 1) := by decide +kernel
theorem dX5_isDeckGood_42 : decode cX5_isDeckGood 42 = .ok (.goto 4, 3) := by decide +kernel
theorem dX5_isDeckGood_45 : decode cX5_isDeckGood 45 = .ok (.iconst 0, 1) := by decide +kernel
theorem dX5_isDeckGood_46 : decode cX5_isDeckGood 46 = .ok (.istore 5, 2) := by decide +kernel
theorem dX5_isDeckGood_48 : decode cX5_isDeckGood 48 = .ok (.iload 5, 2) := by decide +kernel
theorem dX5_isDeckGood_50 : decode cX5_isDeckGood 50 = .ok (.ifCond .ne 25, 3) := by decide +kernel
theorem dX5_isDeckGood_53 : decode cX5_isDeckGood 53 = .ok (.aload_n 0, 1) := by decide +kernel
theorem dX5_isDeckGood_54 : decode cX5_isDeckGood 54 = .ok (.getfield 16, 3) := by decide +kernel
theorem dX5_isDeckGood_57 : decode cX5_isDeckGood 57 = .ok (.iload_n 1, 1) := by decide +kernel
theorem dX5_isDeckGood_58 : decode cX5_isDeckGood 58 = .ok (.aaload, 1) := by decide +kernel
theorem dX5_isDeckGood_59 : decode cX5_isDeckGood 59 = .ok (.iload 4, 2) := by decide +kernel
theorem dX5_isDeckGood_61 : decode cX5_isDeckGood 61 = .ok (.iaload, 1) := by decide +kernel
theorem dX5_isDeckGood_62 : decode cX5_isDeckGood 62 = .ok (.ifCond .le 15, 3) := by decide +kernel
theorem dX5_isDeckGood_65 : decode cX5_isDeckGood 65 = .ok (.aload_n 2, 1) := by decide +kernel
theorem dX5_isDeckGood_66 : decode cX5_isDeckGood 66 = .ok (.iload 4, 2) := by decide +kernel
theorem dX5_isDeckGood_68 : decode cX5_isDeckGood 68 = .ok (.iload_n 3, 1) := by decide +kernel
theorem dX5_isDeckGood_69 : decode cX5_isDeckGood 69 = .ok (.invokevirtual 27, 3) := by decide +kernel
theorem dX5_isDeckGood_72 : decode cX5_isDeckGood 72 = .ok (.ifCond .eq 5, 3) := by decide +kernel
theorem dX5_isDeckGood_75 : decode cX5_isDeckGood 75 = .ok (.iconst 0, 1) := by decide +kernel
theorem dX5_isDeckGood_76 : decode cX5_isDeckGood 76 = .ok (.ireturn, 1) := by decide +kernel
theorem dX5_isDeckGood_77 : decode cX5_isDeckGood 77 = .ok (.iinc 4 1, 3) := by decide +kernel
theorem dX5_isDeckGood_80 : decode cX5_isDeckGood 80 = .ok (.goto (-65), 3) := by decide +kernel
theorem dX5_isDeckGood_83 : decode cX5_isDeckGood 83 = .ok (.iconst 1, 1) := by decide +kernel
theorem dX5_isDeckGood_84 : decode cX5_isDeckGood 84 = .ok (.ireturn, 1) := by decide +kernel
theorem dX5_mostInDeck_0 : decode cX5_mostInDeck 0 = .ok (.aload_n 0, 1) := by decide +kernel
theorem dX5_mostInDeck_1 : decode cX5_mostInDeck 1 = .ok (.getfield 11, 3) := by decide +kernel
theorem dX5_mostInDeck_4 : decode cX5_mostInDeck 4 = .ok (.iload_n 1, 1) := by decide +kernel
theorem dX5_mostInDeck_5 : decode cX5_mostInDeck 5 = .ok (.aaload, 1) := by decide +kernel
theorem dX5_mostInDeck_6 : decode cX5_mostInDeck 6 = .ok (.iload_n 2, 1) := by decide +kernel
theorem dX5_mostInDeck_7 : decode cX5_mostInDeck 7 = .ok (.iaload, 1) := by decide +kernel
theorem dX5_mostInDeck_8 : decode cX5_mostInDeck 8 = .ok (.iconst 3, 1) := by decide +kernel
theorem dX5_mostInDeck_9 : decode cX5_mostInDeck 9 = .ok (.invokestatic 33, 3) := by decide +kernel
theorem dX5_mostInDeck_12 : decode cX5_mostInDeck 12 = .ok (.ireturn, 1) := by decide +kernel
set_option maxRecDepth 20000 in
theorem ggX6_init_X6_clear : GoodIn wsX6_init wsX6_clear := goodIn_r _ [15, 5, 6, 16, 17, 18, 19, 20, 21, 22, 23] (by decide +kernel) (by decide +kernel)
set_option maxRecDepth 20000 in
theorem gX6_init_X6_clear : GoodIn wsX6_init (wsV RX6 30 RX6 yX6_clear wsX6_clear) := goodIn_app (goodIn_of _ (by decide +kernel)) ggX6_init_X6_clear
theorem dX6_init_0 : decode cX6_init 0 = .ok (.aload_n 0, 1) := by decide +kernel
theorem dX6_init_1 : decode cX6_init 1 = .ok (.invokespecial 3, 3) := by decide +kernel
theorem dX6_init_4 : decode cX6_init 4 = .ok (.aload_n 0, 1) := by decide +kernel
theorem dX6_init_5 : decode cX6_init 5 = .ok (.bipush 6, 2) := by decide +kernel
theorem dX6_init_7 : decode cX6_init 7 = .ok (.newarray .int, 2) := by decide +kernel
theorem dX6_init_9 : decode cX6_init 9 = .ok (.putfield 9, 3) := by decide +kernel
theorem dX6_init_12 : decode cX6_init 12 = .ok (.aload_n 0, 1) := by decide +kernel
theorem dX6_init_13 : decode cX6_init 13 = .ok (.bipush 6, 2) := by decide +kernel
theorem dX6_init_15 : decode cX6_init 15 = .ok (.newarray .int, 2) := by decide +kernel
theorem dX6_init_17 : decode cX6_init 17 = .ok (.putfield 15, 3) := by decide +kernel
theorem dX6_init_20 : decode cX6_init 20 = .ok (.aload_n 0, 1) := by decide +kernel
theorem dX6_init_21 : decode cX6_init 21 = .ok (.bipush 6, 2) := by decide +kernel
theorem dX6_init_23 : decode cX6_init 23 = .ok (.newarray .int, 2) := by decide +kernel
theorem dX6_init_25 : decode cX6_init 25 = .ok (.putfield 18, 3) := by decide +kernel
theorem dX6_init_28 : decode cX6_init 28 = .ok (.aload_n 0, 1) := by decide +kernel
theorem dX6_init_29 : decode cX6_init 29 = .ok (.bipush 6, 2) := by decide +kernel
theorem dX6_init_31 : decode cX6_init 31 = .ok (.newarray .int, 2) := by decide +kernel
theorem dX6_init_33 : decode cX6_init 33 = .ok (.putfield 21, 3) := by decide +kernel
theorem dX6_init_36 : decode cX6_init 36 = .ok (.aload_n 0, 1) := by decide +kernel
theorem dX6_init_37 : decode cX6_init 37 = .ok (.bipush 6, 2) := by decide +kernel
theorem dX6_init_39 : decode cX6_init 39 = .ok (.newarray .int, 2) := by decide +kernel
theorem dX6_init_41 : decode cX6_init 41 = .ok (.putfield 24, 3) := by decide +kernel
theorem dX6_init_44 : decode cX6_init 44 = .ok (.aload_n 0, 1) := by decide +kernel
theorem dX6_init_45 : decode cX6_init 45 = .ok (.bipush 6, 2) := by decide +kernel
theorem dX6_init_47 : decode cX6_init 47 = .ok (.newarray .int, 2) := by decide +kernel
theorem dX6_init_49 : decode cX6_init 49 = .ok (.putfield 27, 3) := by decide +kernel
theorem dX6_init_52 : decode cX6_init 52 = .ok (.aload_n 0, 1) := by decide +kernel
theorem dX6_init_53 : decode cX6_init 53 = .ok (.invokevirtual 30, 3) := by decide +kernel
theorem dX6_init_56 : decode cX6_init 56 = .ok (.return_, 1) := by decide +kernel
theorem dX6_clear_0 : decode cX6_clear 0 = .ok (.iconst 0, 1) := by decide +kernel
theorem dX6_clear_1 : decode cX6_clear 1 = .ok (.istore_n 1, 1) := by decide +kernel
theorem dX6_clear_2 : decode cX6_clear 2 = .ok (.iload_n 1, 1) := by decide +kernel
theorem dX6_clear_3 : decode cX6_clear 3 = .ok (.bipush 6, 2) := by decide +kernel
theorem dX6_clear_5 : decode cX6_clear 5 = .ok (.if_icmp .ge 24, 3) := by decide +kernel
theorem dX6_clear_8 : decode cX6_clear 8 = .ok (.aload_n 0, 1) := by decide +kernel
theorem dX6_clear_9 : decode cX6_clear 9 = .ok (.getfield 9, 3) := by decide +kernel
theorem dX6_clear_12 : decode cX6_clear 12 = .ok (.iload_n 1, 1) := by decide +kernel
theorem dX6_clear_13 : decode cX6_clear 13 = .ok (.bipush 20, 2) := by decide +kernel
theorem dX6_clear_15 : decode cX6_clear 15 = .ok (.iastore, 1) := by decide +kernel
theorem dX6_clear_16 : decode cX6_clear 16 = .ok (.aload_n 0, 1) := by decide +kernel
theorem dX6_clear_17 : decode cX6_clear 17 = .ok (.getfield 15, 3) := by decide +kernel
theorem dX6_clear_20 : decode cX6_clear 20 = .ok (.iload_n 1, 1) := by decide +kernel
theorem dX6_clear_21 : decode cX6_clear 21 = .ok (.iconst 0, 1) := by decide +kernel
theorem dX6_clear_22 : decode cX6_clear 22 = .ok (.iastore, 1) := by decide +kernel
theorem dX6_clear_23 : decode cX6_clear 23 = .ok (.iinc 1 1, 3) := by decide +kernel
theorem dX6_clear_26 : decode cX6_clear 26 = .ok (.goto (-24), 3) := by decide +kernel
theorem dX6_clear_29 : decode cX6_clear 29 = .ok (.aload_n 0, 1) := by decide +kernel
theorem dX6_clear_30 : decode cX6_clear 30 = .ok (.iconst 0, 1) := by decide +kernel
theorem dX6_clear_31 : decode cX6_clear 31 = .ok (.putfield 33, 3) := by decide +kernel
theorem dX6_clear_34 : decode cX6_clear 34 = .ok (.return_, 1) := by decide +kernel
theorem dX6_copyFrom_0 : decode cX6_copyFrom 0 = .ok (.iconst 0, 1) := by decide +kernel
theorem dX6_copyFrom_1 : decode cX6_copyFrom 1 = .ok (.istore_n 2, 1) := by decide +kernel
theorem dX6_copyFrom_2 : decode cX6_copyFrom 2 = .ok (.iload_n 2, 1) := by decide +kernel
theorem dX6_copyFrom_3 : decode cX6_copyFrom 3 = .ok (.bipush 6, 2) := by decide +kernel
theorem dX6_copyFrom_5 : decode cX6_copyFrom 5 = .ok (.if_icmp .ge 33, 3) := by decide +kernel
theorem dX6_copyFrom_8 : decode cX6_copyFrom 8 = .ok (.aload_n 0, 1) := by decide +kernel
theorem dX6_copyFrom_9 : decode cX6_copyFrom 9 = .ok (.getfield 9, 3) := by decide +kernel
theorem dX6_copyFrom_12 : decode cX6_copyFrom 12 = .ok (.iload_n 2, 1) := by decide +kernel
theorem dX6_copyFrom_13 : decode cX6_copyFrom 13 = .ok (.aload_n 1, 1) := by decide +kernel
theorem dX6_copyFrom_14 : decode cX6_copyFrom 14 = .ok (.getfield 9, 3) := by decide +kernel
theorem dX6_copyFrom_17 : decode cX6_copyFrom 17 = .ok (.iload_n 2, 1) := by decide +kernel
theorem dX6_copyFrom_18 : decode cX6_copyFrom 18 = .ok (.iaload, 1) := by decide +kernel
theorem dX6_copyFrom_19 : decode cX6_copyFrom 19 = .ok (.iastore, 1) := by decide +kernel
theorem dX6_copyFrom_20 : decode cX6_copyFrom 20 = .ok (.aload_n 0, 1) := by decide +kernel
theorem dX6_copyFrom_21 : decode cX6_copyFrom 21 = .ok (.getfield 15, 3) := by decide +kernel
theorem dX6_copyFrom_24 : decode cX6_copyFrom 24 = .ok (.iload_n 2, 1) := by decide +kernel
theorem dX6_copyFrom_25 : decode cX6_copyFrom 25 = .ok (.aload_n 1, 1) := by decide +kernel
theorem dX6_copyFrom_26 : decode cX6_copyFrom 26 = .ok (.getfield 15, 3) := by decide +kernel
theorem dX6_copyFrom_29 : decode cX6_copyFrom 29 = .ok (.iload_n 2, 1) := by decide +kernel
theorem dX6_copyFrom_30 : decode cX6_copyFrom 30 = .ok (.iaload, 1) := by decide +kernel
theorem dX6_copyFrom_31 : decode cX6_copyFrom 31 = .ok (.iastore, 1) := by decide +kernel
theorem dX6_copyFrom_32 : decode cX6_copyFrom 32 = .ok (.iinc 2 1, 3) := by decide +kernel
theorem dX6_copyFrom_35 : decode cX6_copyFrom 35 = .ok (.goto (-33), 3) := by decide +kernel
theorem dX6_copyFrom_38 : decode cX6_copyFrom 38 = .ok (.iconst 0, 1) := by decide +kernel
theorem dX6_copyFrom_39 : decode cX6_copyFrom 39 = .ok (.istore_n 2, 1) := by decide +kernel
theorem dX6_copyFrom_40 : decode cX6_copyFrom 40 = .ok (.iload_n 2, 1) := by decide +kernel
theorem dX6_copyFrom_41 : decode cX6_copyFrom 41 = .ok (.aload_n 1, 1) := by decide +kernel
theorem dX6_copyFrom_42 : decode cX6_copyFrom 42 = .ok (.getfield 33, 3) := by decide +kernel
theorem dX6_copyFrom_45 : decode cX6_copyFrom 45 = .ok (.if_icmp .ge 57, 3) := by decide +kernel
theorem dX6_copyFrom_48 : decode cX6_copyFrom 48 = .ok (.aload_n 0, 1) := by decide +kernel
theorem dX6_copyFrom_49 : decode cX6_copyFrom 49 = .ok (.getfield 18, 3) := by decide +kernel
theorem dX6_copyFrom_52 : decode cX6_copyFrom 52 = .ok (.iload_n 2, 1) := by decide +kernel
theorem dX6_copyFrom_53 : decode cX6_copyFrom 53 = .ok (.aload_n 1, 1) := by decide +kernel
theorem dX6_copyFrom_54 : decode cX6_copyFrom 54 = .ok (.getfield 18, 3) := by decide +kernel
theorem dX6_copyFrom_57 : decode cX6_copyFrom 57 = .ok (.iload_n 2, 1) := by decide +kernel
theorem dX6_copyFrom_58 : decode cX6_copyFrom 58 = .ok (.iaload, 1) := by decide +kernel
theorem dX6_copyFrom_59 : decode cX6_copyFrom 59 = .ok (.iastore, 1) := by decide +kernel
theorem dX6_copyFrom_60 : decode cX6_copyFrom 60 = .ok (.aload_n 0, 1) := by decide +kernel
theorem dX6_copyFrom_61 : decode cX6_copyFrom 61 = .ok (.getfield 21, 3) := by decide +kernel
theorem dX6_copyFrom_64 : decode cX6_copyFrom 64 = .ok (.iload_n 2, 1) := by decide +kernel
theorem dX6_copyFrom_65 : decode cX6_copyFrom 65 = .ok (.aload_n 1, 1) := by decide +kernel
theorem dX6_copyFrom_66 : decode cX6_copyFrom 66 = .ok (.getfield 21, 3) := by decide +kernel
theorem dX6_copyFrom_69 : decode cX6_copyFrom 69 = .ok (.iload_n 2, 1) := by decide +kernel
theorem dX6_copyFrom_70 : decode cX6_copyFrom 70 = .ok (.iaload, 1) := by decide +kernel
theorem dX6_copyFrom_71 : decode cX6_copyFrom 71 = .ok (.iastore, 1) := by decide +kernel
theorem dX6_copyFrom_72 : decode cX6_copyFrom 72 = .ok (.aload_n 0, 1) := by decide +kernel
theorem dX6_copyFrom_73 : decode cX6_copyFrom 73 = .ok (.getfield 24, 3) := by decide +kernel
theorem dX6_copyFrom_76 : decode cX6_copyFrom 76 = .ok (.iload_n 2, 1) := by decide +kernel
theorem dX6_copyFrom_77 : decode cX6_copyFrom 77 = .ok (.aload_n 1, 1) := by decide +kernel
theorem dX6_copyFrom_78 : decode cX6_copyFrom 78 = .ok (.getfield 24, 3) := by decide +kernel
theorem dX6_copyFrom_81 : decode cX6_copyFrom 81 = .ok (.iload_n 2, 1) := by decide +kernel
theorem dX6_copyFrom_82 : decode cX6_copyFrom 82 = .ok (.iaload, 1) := by decide +kernel
theorem dX6_copyFrom_83 : decode cX6_copyFrom 83 = .ok (.iastore, 1) := by decide +kernel
theorem dX6_copyFrom_84 : decode cX6_copyFrom 84 = .ok (.aload_n 0, 1) := by decide +kernel
theorem dX6_copyFrom_85 : decode cX6_copyFrom 85 = .ok (.getfield 27, 3) := by decide +kernel
theorem dX6_copyFrom_88 : decode cX6_copyFrom 88 = .ok (.iload_n 2, 1) := by decide +kernel
theorem dX6_copyFrom_89 : decode cX6_copyFrom 89 = .ok (.aload_n 1, 1) := by decide +kernel
theorem dX6_copyFrom_90 : decode cX6_copyFrom 90 = .ok (.getfield 27, 3) := by decide +kernel
theorem dX6_copyFrom_93 : decode cX6_copyFrom 93 = .ok (.iload_n 2, 1) := by decide +kernel
theorem dX6_copyFrom_94 : decode cX6_copyFrom 94 = .ok (.iaload, 1) := by decide +kernel
theorem dX6_copyFrom_95 : decode cX6_copyFrom 95 = .ok (.iastore, 1) := by decide +kernel
theorem dX6_copyFrom_96 : decode cX6_copyFrom 96 = .ok (.iinc 2 1, 3) := by decide +kernel
theorem dX6_copyFrom_99 : decode cX6_copyFrom 99 = .ok (.goto (-59), 3) := by decide +kernel
theorem dX6_copyFrom_102 : decode cX6_copyFrom 102 = .ok (.aload_n 0, 1) := by decide +kernel
theorem dX6_copyFrom_103 : decode cX6_copyFrom 103 = .ok (.aload_n 1, 1) := by decide +kernel
theorem dX6_copyFrom_104 : decode cX6_copyFrom 104 = .ok (.getfield 33, 3) := by decide +kernel
theorem dX6_copyFrom_107 : decode cX6_copyFrom 107 = .ok (.putfield 33, 3) := by decide +kernel
theorem dX6_copyFrom_110 : decode cX6_copyFrom 110 = .ok (.return_, 1) := by decide +kernel
theorem dX6_lay_0 : decode cX6_lay 0 = .ok (.aload_n 0, 1) := by decide +kernel
theorem dX6_lay_1 : decode cX6_lay 1 = .ok (.getfield 33, 3) := by decide +kernel
theorem dX6_lay_4 : decode cX6_lay 4 = .ok (.bipush 6, 2) := by decide +kernel
theorem dX6_lay_6 : decode cX6_lay 6 = .ok (.if_icmp .lt 4, 3) := by decide +kernel
theorem dX6_lay_9 : decode cX6_lay 9 = .ok (.return_, 1) := by decide +kernel
theorem dX6_lay_10 : decode cX6_lay 10 = .ok (.aload_n 0, 1) := by decide +kernel
theorem dX6_lay_11 : decode cX6_lay 11 = .ok (.getfield 18, 3) := by decide +kernel
theorem dX6_lay_14 : decode cX6_lay 14 = .ok (.aload_n 0, 1) := by decide +kernel
theorem dX6_lay_15 : decode cX6_lay 15 = .ok (.getfield 33, 3) := by decide +kernel
theorem dX6_lay_18 : decode cX6_lay 18 = .ok (.iload_n 1, 1) := by decide +kernel
theorem dX6_lay_19 : decode cX6_lay 19 = .ok (.iastore, 1) := by decide +kernel
theorem dX6_lay_20 : decode cX6_lay 20 = .ok (.aload_n 0, 1) := by decide +kernel
theorem dX6_lay_21 : decode cX6_lay 21 = .ok (.getfield 21, 3) := by decide +kernel
theorem dX6_lay_24 : decode cX6_lay 24 = .ok (.aload_n 0, 1) := by decide +kernel
theorem dX6_lay_25 : decode cX6_lay 25 = .ok (.getfield 33, 3) := by decide +kernel
theorem dX6_lay_28 : decode cX6_lay 28 = .ok (.iload_n 2, 1) := by decide +kernel
theorem dX6_lay_29 : decode cX6_lay 29 = .ok (.iastore, 1) := by decide +kernel
theorem dX6_lay_30 : decode cX6_lay 30 = .ok (.aload_n 0, 1) := by decide +kernel
theorem dX6_lay_31 : decode cX6_lay 31 = .ok (.getfield 24, 3) := by decide +kernel
theorem dX6_lay_34 : decode cX6_lay 34 = .ok (.aload_n 0, 1) := by decide +kernel
theorem dX6_lay_35 : decode cX6_lay 35 = .ok (.getfield 33, 3) := by decide +kernel
theorem dX6_lay_38 : decode cX6_lay 38 = .ok (.iload_n 3, 1) := by decide +kernel
theorem dX6_lay_39 : decode cX6_lay 39 = .ok (.iastore, 1) := by decide +kernel
theorem dX6_lay_40 : decode cX6_lay 40 = .ok (.aload_n 0, 1) := by decide +kernel
theorem dX6_lay_41 : decode cX6_lay 41 = .ok (.getfield 27, 3) := by decide +kernel
theorem dX6_lay_44 : decode cX6_lay 44 = .ok (.aload_n 0, 1) := by decide +kernel
theorem dX6_lay_45 : decode cX6_lay 45 = .ok (.getfield 33, 3) := by decide +kernel
theorem dX6_lay_48 : decode cX6_lay 48 = .ok (.iload 4, 2) := by decide +kernel
theorem dX6_lay_50 : decode cX6_lay 50 = .ok (.iastore, 1) := by decide +kernel
theorem dX6_lay_51 : decode cX6_lay 51 = .ok (.aload_n 0, 1) := by decide +kernel
theorem dX6_lay_52 : decode cX6_lay 52 = .ok (.dup, 1) := by decide +kernel
theorem dX6_lay_53 : decode cX6_lay 53 = .ok (.getfield 33, 3) := by decide +kernel
theorem dX6_lay_56 : decode cX6_lay 56 = .ok (.iconst 1, 1) := by decide +kernel
theorem dX6_lay_57 : decode cX6_lay 57 = .ok (.iadd, 1) := by decide +kernel
theorem dX6_lay_58 : decode cX6_lay 58 = .ok (.putfield 33, 3) := by decide +kernel
theorem dX6_lay_61 : decode cX6_lay 61 = .ok (.return_, 1) := by decide +kernel
set_option maxRecDepth 20000 in
theorem ggX6_doTop_X6_act : GoodIn wsX6_doTop wsX6_act := goodIn_r _ [6, 7, 8, 9, 10, 5, 11, 12, 13, 14, 15, 16, 1, 17, 18, 19, 20, 21, 22, 23, 24, 25, 26, 27, 28, 29, 30, 31, 32, 33, 34, 35, 36, 37, 38, 39, 40, 41, 42, 43, 44, 45, 46] (by decide +kernel) (by decide +kernel)
set_option maxRecDepth 20000 in
theorem gX6_doTop_X6_act : GoodIn wsX6_doTop (wsV RX6 37 RX6 yX6_act wsX6_act) := goodIn_app (goodIn_of _ (by decide +kernel)) ggX6_doTop_X6_act
theorem dX6_doTop_0 : decode cX6_doTop 0 = .ok (.aload_n 0, 1) := by decide +kernel
theorem dX6_doTop_1 : decode cX6_doTop 1 = .ok (.getfield 33, 3) := by decide +kernel
theorem dX6_doTop_4 : decode cX6_doTop 4 = .ok (.iconst 1, 1) := by decide +kernel
theorem dX6_doTop_5 : decode cX6_doTop 5 = .ok (.isub, 1) := by decide +kernel
theorem dX6_doTop_6 : decode cX6_doTop 6 = .ok (.istore_n 1, 1) := by decide +kernel
theorem dX6_doTop_7 : decode cX6_doTop 7 = .ok (.iload_n 1, 1) := by decide +kernel
theorem dX6_doTop_8 : decode cX6_doTop 8 = .ok (.ifCond .lt 11, 3) := by decide +kernel
theorem dX6_doTop_11 : decode cX6_doTop 11 = .ok (.aload_n 0, 1) := by decide +kernel
theorem dX6_doTop_12 : decode cX6_doTop 12 = .ok (.iload_n 1, 1) := by decide +kernel
theorem dX6_doTop_13 : decode cX6_doTop 13 = .ok (.invokevirtual 37, 3) := by decide +kernel
theorem dX6_doTop_16 : decode cX6_doTop 16 = .ok (.ifCond .ne 5, 3) := by decide +kernel
theorem dX6_doTop_19 : decode cX6_doTop 19 = .ok (.iconst 0, 1) := by decide +kernel
theorem dX6_doTop_20 : decode cX6_doTop 20 = .ok (.ireturn, 1) := by decide +kernel
theorem dX6_doTop_21 : decode cX6_doTop 21 = .ok (.aload_n 0, 1) := by decide +kernel
theorem dX6_doTop_22 : decode cX6_doTop 22 = .ok (.dup, 1) := by decide +kernel
theorem dX6_doTop_23 : decode cX6_doTop 23 = .ok (.getfield 33, 3) := by decide +kernel
theorem dX6_doTop_26 : decode cX6_doTop 26 = .ok (.iconst 1, 1) := by decide +kernel
theorem dX6_doTop_27 : decode cX6_doTop 27 = .ok (.isub, 1) := by decide +kernel
theorem dX6_doTop_28 : decode cX6_doTop 28 = .ok (.putfield 33, 3) := by decide +kernel
theorem dX6_doTop_31 : decode cX6_doTop 31 = .ok (.iconst 1, 1) := by decide +kernel
theorem dX6_doTop_32 : decode cX6_doTop 32 = .ok (.ireturn, 1) := by decide +kernel
set_option maxRecDepth 20000 in
theorem ggX6_act_X6_nearestByOther : GoodIn wsX6_act wsX6_nearestByOther := goodIn_r _ [6, 7, 36, 37, 38, 39, 40, 41, 42] (by decide +kernel) (by decide +kernel)
set_option maxRecDepth 20000 in
theorem gX6_act_X6_nearestByOther : GoodIn wsX6_act (wsV RX6 41 RX6 yX6_nearestByOther wsX6_nearestByOther) := goodIn_app (goodIn_of _ (by decide +kernel)) ggX6_act_X6_nearestByOther
set_option maxRecDepth 20000 in
theorem ggX6_act_X6_takeOff : GoodIn wsX6_act wsX6_takeOff := goodIn_r _ [11, 12, 1, 13, 7, 14, 36, 37, 38, 39, 40, 41, 42] (by decide +kernel) (by decide +kernel)
set_option maxRecDepth 20000 in
theorem gX6_act_X6_takeOff : GoodIn wsX6_act (wsV RX6 45 RX6 yX6_takeOff wsX6_takeOff) := goodIn_app (goodIn_of _ (by decide +kernel)) ggX6_act_X6_takeOff
set_option maxRecDepth 20000 in
theorem ggX6_act_X6_makeTwice : GoodIn wsX6_act wsX6_makeTwice := goodIn_r _ [18, 13, 19, 36, 37, 38, 39, 40, 41, 42] (by decide +kernel) (by decide +kernel)
set_option maxRecDepth 20000 in
theorem gX6_act_X6_makeTwice : GoodIn wsX6_act (wsV RX6 49 RX6 yX6_makeTwice wsX6_makeTwice) := goodIn_app (goodIn_of _ (by decide +kernel)) ggX6_act_X6_makeTwice
set_option maxRecDepth 20000 in
theorem ggX6_act_X6_turn : GoodIn wsX6_act wsX6_turn := goodIn_r _ [23, 12, 1, 36, 37, 38, 39, 40, 41, 42] (by decide +kernel) (by decide +kernel)
set_option maxRecDepth 20000 in
theorem gX6_act_X6_turn : GoodIn wsX6_act (wsV RX6 52 RX6 yX6_turn wsX6_turn) := goodIn_app (goodIn_of _ (by decide +kernel)) ggX6_act_X6_turn
set_option maxRecDepth 20000 in
theorem ggX6_act_X6_touch : GoodIn wsX6_act wsX6_touch := goodIn_r _ [27, 14, 13, 28, 29, 1, 30, 31, 32, 33, 34, 35, 36, 37, 38, 39, 40, 41, 42] (by decide +kernel) (by decide +kernel)
set_option maxRecDepth 20000 in
theorem gX6_act_X6_touch : GoodIn wsX6_act (wsV RX6 55 RX6 yX6_touch wsX6_touch) := goodIn_app (goodIn_of _ (by decide +kernel)) ggX6_act_X6_touch
theorem dX6_act_0 : decode cX6_act 0 = .ok (.aload_n 0, 1) := by decide +kernel
theorem dX6_act_1 : decode cX6_act 1 = .ok (.getfield 18, 3) := by decide +kernel
theorem dX6_act_4 : decode cX6_act 4 = .ok (.iload_n 1, 1) := by decide +kernel
theorem dX6_act_5 : decode cX6_act 5 = .ok (.iaload, 1) := by decide +kernel
theorem dX6_act_6 : decode cX6_act 6 = .ok (.tableswitch 68 3 5 #[26, 37, 57], 26) := by decide +kernel
theorem dX6_act_32 : decode cX6_act 32 = .ok (.aload_n 0, 1) := by decide +kernel
theorem dX6_act_33 : decode cX6_act 33 = .ok (.aload_n 0, 1) := by decide +kernel
theorem dX6_act_34 : decode cX6_act 34 = .ok (.iload_n 1, 1) := by decide +kernel
theorem dX6_act_35 : decode cX6_act 35 = .ok (.invokevirtual 41, 3) := by decide +kernel
theorem dX6_act_38 : decode cX6_act 38 = .ok (.invokevirtual 45, 3) := by decide +kernel
theorem dX6_act_41 : decode cX6_act 41 = .ok (.iconst 1, 1) := by decide +kernel
theorem dX6_act_42 : decode cX6_act 42 = .ok (.ireturn, 1) := by decide +kernel
theorem dX6_act_43 : decode cX6_act 43 = .ok (.iload_n 1, 1) := by decide +kernel
theorem dX6_act_44 : decode cX6_act 44 = .ok (.ifCond .eq 13, 3) := by decide +kernel
theorem dX6_act_47 : decode cX6_act 47 = .ok (.aload_n 0, 1) := by decide +kernel
theorem dX6_act_48 : decode cX6_act 48 = .ok (.iload_n 1, 1) := by decide +kernel
theorem dX6_act_49 : decode cX6_act 49 = .ok (.iconst 1, 1) := by decide +kernel
theorem dX6_act_50 : decode cX6_act 50 = .ok (.isub, 1) := by decide +kernel
theorem dX6_act_51 : decode cX6_act 51 = .ok (.invokevirtual 49, 3) := by decide +kernel
theorem dX6_act_54 : decode cX6_act 54 = .ok (.ifCond .eq 7, 3) := by decide +kernel
theorem dX6_act_57 : decode cX6_act 57 = .ok (.iconst 1, 1) := by decide +kernel
theorem dX6_act_58 : decode cX6_act 58 = .ok (.goto 4, 3) := by decide +kernel
theorem dX6_act_61 : decode cX6_act 61 = .ok (.iconst 0, 1) := by decide +kernel
theorem dX6_act_62 : decode cX6_act 62 = .ok (.ireturn, 1) := by decide +kernel
theorem dX6_act_63 : decode cX6_act 63 = .ok (.aload_n 0, 1) := by decide +kernel
theorem dX6_act_64 : decode cX6_act 64 = .ok (.iconst 1, 1) := by decide +kernel
theorem dX6_act_65 : decode cX6_act 65 = .ok (.iload_n 1, 1) := by decide +kernel
theorem dX6_act_66 : decode cX6_act 66 = .ok (.ishl, 1) := by decide +kernel
theorem dX6_act_67 : decode cX6_act 67 = .ok (.iconst 1, 1) := by decide +kernel
theorem dX6_act_68 : decode cX6_act 68 = .ok (.isub, 1) := by decide +kernel
theorem dX6_act_69 : decode cX6_act 69 = .ok (.invokevirtual 52, 3) := by decide +kernel
theorem dX6_act_72 : decode cX6_act 72 = .ok (.iconst 1, 1) := by decide +kernel
theorem dX6_act_73 : decode cX6_act 73 = .ok (.ireturn, 1) := by decide +kernel
theorem dX6_act_74 : decode cX6_act 74 = .ok (.aload_n 0, 1) := by decide +kernel
theorem dX6_act_75 : decode cX6_act 75 = .ok (.iload_n 1, 1) := by decide +kernel
theorem dX6_act_76 : decode cX6_act 76 = .ok (.invokevirtual 55, 3) := by decide +kernel
theorem dX6_act_79 : decode cX6_act 79 = .ok (.ireturn, 1) := by decide +kernel
theorem dX6_nearestByOther_0 : decode cX6_nearestByOther 0 = .ok (.iload_n 1, 1) := by decide +kernel
theorem dX6_nearestByOther_1 : decode cX6_nearestByOther 1 = .ok (.iconst 1, 1) := by decide +kernel
theorem dX6_nearestByOther_2 : decode cX6_nearestByOther 2 = .ok (.isub, 1) := by decide +kernel
theorem dX6_nearestByOther_3 : decode cX6_nearestByOther 3 = .ok (.istore_n 2, 1) := by decide +kernel
theorem dX6_nearestByOther_4 : decode cX6_nearestByOther 4 = .ok (.iload_n 2, 1) := by decide +kernel
theorem dX6_nearestByOther_5 : decode cX6_nearestByOther 5 = .ok (.ifCond .lt 26, 3) := by decide +kernel
theorem dX6_nearestByOther_8 : decode cX6_nearestByOther 8 = .ok (.aload_n 0, 1) := by decide +kernel
theorem dX6_nearestByOther_9 : decode cX6_nearestByOther 9 = .ok (.getfield 24, 3) := by decide +kernel
theorem dX6_nearestByOther_12 : decode cX6_nearestByOther 12 = .ok (.iload_n 2, 1) := by decide +kernel
theorem dX6_nearestByOther_13 : decode cX6_nearestByOther 13 = .ok (.iaload, 1) := by decide +kernel
theorem dX6_nearestByOther_14 : decode cX6_nearestByOther 14 = .ok (.aload_n 0, 1) := by decide +kernel
theorem dX6_nearestByOther_15 : decode cX6_nearestByOther 15 = .ok (.getfield 24, 3) := by decide +kernel
theorem dX6_nearestByOther_18 : decode cX6_nearestByOther 18 = .ok (.iload_n 1, 1) := by decide +kernel
theorem dX6_nearestByOther_19 : decode cX6_nearestByOther 19 = .ok (.iaload, 1) := by decide +kernel
theorem dX6_nearestByOther_20 : decode cX6_nearestByOther 20 = .ok (.if_icmp .eq 5, 3) := by decide +kernel
theorem dX6_nearestByOther_23 : decode cX6_nearestByOther 23 = .ok (.iload_n 2, 1) := by decide +kernel
theorem dX6_nearestByOther_24 : decode cX6_nearestByOther 24 = .ok (.ireturn, 1) := by decide +kernel
theorem dX6_nearestByOther_25 : decode cX6_nearestByOther 25 = .ok (.iinc 2 (-1), 3) := by decide +kernel
theorem dX6_nearestByOther_28 : decode cX6_nearestByOther 28 = .ok (.goto (-24), 3) := by decide +kernel
theorem dX6_nearestByOther_31 : decode cX6_nearestByOther 31 = .ok (.iconst (-1), 1) := by decide +kernel
theorem dX6_nearestByOther_32 : decode cX6_nearestByOther 32 = .ok (.ireturn, 1) := by decide +kernel
theorem dX6_takeOff_0 : decode cX6_takeOff 0 = .ok (.iload_n 1, 1) := by decide +kernel
theorem dX6_takeOff_1 : decode cX6_takeOff 1 = .ok (.ifCond .ge 4, 3) := by decide +kernel
theorem dX6_takeOff_4 : decode cX6_takeOff 4 = .ok (.return_, 1) := by decide +kernel
theorem dX6_takeOff_5 : decode cX6_takeOff 5 = .ok (.iload_n 1, 1) := by decide +kernel
theorem dX6_takeOff_6 : decode cX6_takeOff 6 = .ok (.iconst 1, 1) := by decide +kernel
theorem dX6_takeOff_7 : decode cX6_takeOff 7 = .ok (.iadd, 1) := by decide +kernel
theorem dX6_takeOff_8 : decode cX6_takeOff 8 = .ok (.istore_n 2, 1) := by decide +kernel
theorem dX6_takeOff_9 : decode cX6_takeOff 9 = .ok (.iload_n 2, 1) := by decide +kernel
theorem dX6_takeOff_10 : decode cX6_takeOff 10 = .ok (.aload_n 0, 1) := by decide +kernel
theorem dX6_takeOff_11 : decode cX6_takeOff 11 = .ok (.getfield 33, 3) := by decide +kernel
theorem dX6_takeOff_14 : decode cX6_takeOff 14 = .ok (.if_icmp .ge 65, 3) := by decide +kernel
theorem dX6_takeOff_17 : decode cX6_takeOff 17 = .ok (.aload_n 0, 1) := by decide +kernel
theorem dX6_takeOff_18 : decode cX6_takeOff 18 = .ok (.getfield 18, 3) := by decide +kernel
theorem dX6_takeOff_21 : decode cX6_takeOff 21 = .ok (.iload_n 2, 1) := by decide +kernel
theorem dX6_takeOff_22 : decode cX6_takeOff 22 = .ok (.iconst 1, 1) := by decide +kernel
theorem dX6_takeOff_23 : decode cX6_takeOff 23 = .ok (.isub, 1) := by decide +kernel
theorem dX6_takeOff_24 : decode cX6_takeOff 24 = .ok (.aload_n 0, 1) := by decide +kernel
theorem dX6_takeOff_25 : decode cX6_takeOff 25 = .ok (.getfield 18, 3) := by decide +kernel
theorem dX6_takeOff_28 : decode cX6_takeOff 28 = .ok (.iload_n 2, 1) := by decide +kernel
theorem dX6_takeOff_29 : decode cX6_takeOff 29 = .ok (.iaload, 1) := by decide +kernel
theorem dX6_takeOff_30 : decode cX6_takeOff 30 = .ok (.iastore, 1) := by decide +kernel
theorem dX6_takeOff_31 : decode cX6_takeOff 31 = .ok (.aload_n 0, 1) := by decide +kernel
theorem dX6_takeOff_32 : decode cX6_takeOff 32 = .ok (.getfield 21, 3) := by decide +kernel
theorem dX6_takeOff_35 : decode cX6_takeOff 35 = .ok (.iload_n 2, 1) := by decide +kernel
theorem dX6_takeOff_36 : decode cX6_takeOff 36 = .ok (.iconst 1, 1) := by decide +kernel
theorem dX6_takeOff_37 : decode cX6_takeOff 37 = .ok (.isub, 1) := by decide +kernel
theorem dX6_takeOff_38 : decode cX6_takeOff 38 = .ok (.aload_n 0, 1) := by decide +kernel
theorem dX6_takeOff_39 : decode cX6_takeOff 39 = .ok (.getfield 21, 3) := by decide +kernel
theorem dX6_takeOff_42 : decode cX6_takeOff 42 = .ok (.iload_n 2, 1) := by decide +kernel
theorem dX6_takeOff_43 : decode cX6_takeOff 43 = .ok (.iaload, 1) := by decide +kernel
theorem dX6_takeOff_44 : decode cX6_takeOff 44 = .ok (.iastore, 1) := by decide +kernel
theorem dX6_takeOff_45 : decode cX6_takeOff 45 = .ok (.aload_n 0, 1) := by decide +kernel
theorem dX6_takeOff_46 : decode cX6_takeOff 46 = .ok (.getfield 24, 3) := by decide +kernel
theorem dX6_takeOff_49 : decode cX6_takeOff 49 = .ok (.iload_n 2, 1) := by decide +kernel
theorem dX6_takeOff_50 : decode cX6_takeOff 50 = .ok (.iconst 1, 1) := by decide +kernel
theorem dX6_takeOff_51 : decode cX6_takeOff 51 = .ok (.isub, 1) := by decide +kernel
theorem dX6_takeOff_52 : decode cX6_takeOff 52 = .ok (.aload_n 0, 1) := by decide +kernel
theorem dX6_takeOff_53 : decode cX6_takeOff 53 = .ok (.getfield 24, 3) := by decide +kernel
theorem dX6_takeOff_56 : decode cX6_takeOff 56 = .ok (.iload_n 2, 1) := by decide +kernel
theorem dX6_takeOff_57 : decode cX6_takeOff 57 = .ok (.iaload, 1) := by decide +kernel
theorem dX6_takeOff_58 : decode cX6_takeOff 58 = .ok (.iastore, 1) := by decide +kernel
theorem dX6_takeOff_59 : decode cX6_takeOff 59 = .ok (.aload_n 0, 1) := by decide +kernel
theorem dX6_takeOff_60 : decode cX6_takeOff 60 = .ok (.getfield 27, 3) := by decide +kernel
theorem dX6_takeOff_63 : decode cX6_takeOff 63 = .ok (.iload_n 2, 1) := by decide +kernel
theorem dX6_takeOff_64 : decode cX6_takeOff 64 = .ok (.iconst 1, 1) := by decide +kernel
theorem dX6_takeOff_65 : decode cX6_takeOff 65 = .ok (.isub, 1) := by decide +kernel
theorem dX6_takeOff_66 : decode cX6_takeOff 66 = .ok (.aload_n 0, 1) := by decide +kernel
theorem dX6_takeOff_67 : decode cX6_takeOff 67 = .ok (.getfield 27, 3) := by decide +kernel
theorem dX6_takeOff_70 : decode cX6_takeOff 70 = .ok (.iload_n 2, 1) := by decide +kernel
theorem dX6_takeOff_71 : decode cX6_takeOff 71 = .ok (.iaload, 1) := by decide +kernel
theorem dX6_takeOff_72 : decode cX6_takeOff 72 = .ok (.iastore, 1) := by decide +kernel
theorem dX6_takeOff_73 : decode cX6_takeOff 73 = .ok (.iinc 2 1, 3) := by decide +kernel
theorem dX6_takeOff_76 : decode cX6_takeOff 76 = .ok (.goto (-67), 3) := by decide +kernel
theorem dX6_takeOff_79 : decode cX6_takeOff 79 = .ok (.aload_n 0, 1) := by decide +kernel
theorem dX6_takeOff_80 : decode cX6_takeOff 80 = .ok (.dup, 1) := by decide +kernel
theorem dX6_takeOff_81 : decode cX6_takeOff 81 = .ok (.getfield 33, 3) := by decide +kernel
theorem dX6_takeOff_84 : decode cX6_takeOff 84 = .ok (.iconst 1, 1) := by decide +kernel
theorem dX6_takeOff_85 : decode cX6_takeOff 85 = .ok (.isub, 1) := by decide +kernel
theorem dX6_takeOff_86 : decode cX6_takeOff 86 = .ok (.putfield 33, 3) := by decide +kernel
theorem dX6_takeOff_89 : decode cX6_takeOff 89 = .ok (.return_, 1) := by decide +kernel
theorem dX6_makeTwice_0 : decode cX6_makeTwice 0 = .ok (.aload_n 0, 1) := by decide +kernel
theorem dX6_makeTwice_1 : decode cX6_makeTwice 1 = .ok (.getfield 21, 3) := by decide +kernel
theorem dX6_makeTwice_4 : decode cX6_makeTwice 4 = .ok (.iload_n 1, 1) := by decide +kernel
theorem dX6_makeTwice_5 : decode cX6_makeTwice 5 = .ok (.iaload, 1) := by decide +kernel
theorem dX6_makeTwice_6 : decode cX6_makeTwice 6 = .ok (.ldc 60, 2) := by decide +kernel
theorem dX6_makeTwice_8 : decode cX6_makeTwice 8 = .ok (.if_icmp .le 5, 3) := by decide +kernel
theorem dX6_makeTwice_11 : decode cX6_makeTwice 11 = .ok (.iconst 0, 1) := by decide +kernel
theorem dX6_makeTwice_12 : decode cX6_makeTwice 12 = .ok (.ireturn, 1) := by decide +kernel
theorem dX6_makeTwice_13 : decode cX6_makeTwice 13 = .ok (.aload_n 0, 1) := by decide +kernel
theorem dX6_makeTwice_14 : decode cX6_makeTwice 14 = .ok (.getfield 21, 3) := by decide +kernel
theorem dX6_makeTwice_17 : decode cX6_makeTwice 17 = .ok (.iload_n 1, 1) := by decide +kernel
theorem dX6_makeTwice_18 : decode cX6_makeTwice 18 = .ok (.dup2, 1) := by decide +kernel
theorem dX6_makeTwice_19 : decode cX6_makeTwice 19 = .ok (.iaload, 1) := by decide +kernel
theorem dX6_makeTwice_20 : decode cX6_makeTwice 20 = .ok (.iconst 2, 1) := by decide +kernel
theorem dX6_makeTwice_21 : decode cX6_makeTwice 21 = .ok (.imul, 1) := by decide +kernel
theorem dX6_makeTwice_22 : decode cX6_makeTwice 22 = .ok (.iastore, 1) := by decide +kernel
theorem dX6_makeTwice_23 : decode cX6_makeTwice 23 = .ok (.iconst 1, 1) := by decide +kernel
theorem dX6_makeTwice_24 : decode cX6_makeTwice 24 = .ok (.ireturn, 1) := by decide +kernel
theorem dX6_turn_0 : decode cX6_turn 0 = .ok (.iconst 0, 1) := by decide +kernel
theorem dX6_turn_1 : decode cX6_turn 1 = .ok (.istore_n 2, 1) := by decide +kernel
theorem dX6_turn_2 : decode cX6_turn 2 = .ok (.iload_n 2, 1) := by decide +kernel
theorem dX6_turn_3 : decode cX6_turn 3 = .ok (.aload_n 0, 1) := by decide +kernel
theorem dX6_turn_4 : decode cX6_turn 4 = .ok (.getfield 33, 3) := by decide +kernel
theorem dX6_turn_7 : decode cX6_turn 7 = .ok (.if_icmp .ge 68, 3) := by decide +kernel
theorem dX6_turn_10 : decode cX6_turn 10 = .ok (.iload_n 1, 1) := by decide +kernel
theorem dX6_turn_11 : decode cX6_turn 11 = .ok (.iload_n 2, 1) := by decide +kernel
theorem dX6_turn_12 : decode cX6_turn 12 = .ok (.ishr, 1) := by decide +kernel
theorem dX6_turn_13 : decode cX6_turn 13 = .ok (.iconst 1, 1) := by decide +kernel
theorem dX6_turn_14 : decode cX6_turn 14 = .ok (.iand, 1) := by decide +kernel
theorem dX6_turn_15 : decode cX6_turn 15 = .ok (.iconst 1, 1) := by decide +kernel
theorem dX6_turn_16 : decode cX6_turn 16 = .ok (.if_icmp .ne 7, 3) := by decide +kernel
theorem dX6_turn_19 : decode cX6_turn 19 = .ok (.iconst 1, 1) := by decide +kernel
theorem dX6_turn_20 : decode cX6_turn 20 = .ok (.goto 4, 3) := by decide +kernel
theorem dX6_turn_23 : decode cX6_turn 23 = .ok (.iconst 0, 1) := by decide +kernel
theorem dX6_turn_24 : decode cX6_turn 24 = .ok (.istore_n 3, 1) := by decide +kernel
theorem dX6_turn_25 : decode cX6_turn 25 = .ok (.iload_n 3, 1) := by decide +kernel
theorem dX6_turn_26 : decode cX6_turn 26 = .ok (.ifCond .eq 22, 3) := by decide +kernel
theorem dX6_turn_29 : decode cX6_turn 29 = .ok (.aload_n 0, 1) := by decide +kernel
theorem dX6_turn_30 : decode cX6_turn 30 = .ok (.getfield 18, 3) := by decide +kernel
theorem dX6_turn_33 : decode cX6_turn 33 = .ok (.iload_n 2, 1) := by decide +kernel
theorem dX6_turn_34 : decode cX6_turn 34 = .ok (.iaload, 1) := by decide +kernel
theorem dX6_turn_35 : decode cX6_turn 35 = .ok (.ifCond .ne 13, 3) := by decide +kernel
theorem dX6_turn_38 : decode cX6_turn 38 = .ok (.aload_n 0, 1) := by decide +kernel
theorem dX6_turn_39 : decode cX6_turn 39 = .ok (.getfield 18, 3) := by decide +kernel
theorem dX6_turn_42 : decode cX6_turn 42 = .ok (.iload_n 2, 1) := by decide +kernel
theorem dX6_turn_43 : decode cX6_turn 43 = .ok (.iconst 1, 1) := by decide +kernel
theorem dX6_turn_44 : decode cX6_turn 44 = .ok (.iastore, 1) := by decide +kernel
theorem dX6_turn_45 : decode cX6_turn 45 = .ok (.goto 24, 3) := by decide +kernel
theorem dX6_turn_48 : decode cX6_turn 48 = .ok (.iload_n 3, 1) := by decide +kernel
theorem dX6_turn_49 : decode cX6_turn 49 = .ok (.ifCond .eq 20, 3) := by decide +kernel
theorem dX6_turn_52 : decode cX6_turn 52 = .ok (.aload_n 0, 1) := by decide +kernel
theorem dX6_turn_53 : decode cX6_turn 53 = .ok (.getfield 18, 3) := by decide +kernel
theorem dX6_turn_56 : decode cX6_turn 56 = .ok (.iload_n 2, 1) := by decide +kernel
theorem dX6_turn_57 : decode cX6_turn 57 = .ok (.iaload, 1) := by decide +kernel
theorem dX6_turn_58 : decode cX6_turn 58 = .ok (.iconst 1, 1) := by decide +kernel
theorem dX6_turn_59 : decode cX6_turn 59 = .ok (.if_icmp .ne 10, 3) := by decide +kernel
theorem dX6_turn_62 : decode cX6_turn 62 = .ok (.aload_n 0, 1) := by decide +kernel
theorem dX6_turn_63 : decode cX6_turn 63 = .ok (.getfield 18, 3) := by decide +kernel
theorem dX6_turn_66 : decode cX6_turn 66 = .ok (.iload_n 2, 1) := by decide +kernel
theorem dX6_turn_67 : decode cX6_turn 67 = .ok (.iconst 0, 1) := by decide +kernel
theorem dX6_turn_68 : decode cX6_turn 68 = .ok (.iastore, 1) := by decide +kernel
theorem dX6_turn_69 : decode cX6_turn 69 = .ok (.iinc 2 1, 3) := by decide +kernel
theorem dX6_turn_72 : decode cX6_turn 72 = .ok (.goto (-70), 3) := by decide +kernel
theorem dX6_turn_75 : decode cX6_turn 75 = .ok (.return_, 1) := by decide +kernel
theorem dX6_touch_0 : decode cX6_touch 0 = .ok (.aload_n 0, 1) := by decide +kernel
theorem dX6_touch_1 : decode cX6_touch 1 = .ok (.getfield 27, 3) := by decide +kernel
theorem dX6_touch_4 : decode cX6_touch 4 = .ok (.iload_n 1, 1) := by decide +kernel
theorem dX6_touch_5 : decode cX6_touch 5 = .ok (.iaload, 1) := by decide +kernel
theorem dX6_touch_6 : decode cX6_touch 6 = .ok (.istore_n 2, 1) := by decide +kernel
theorem dX6_touch_7 : decode cX6_touch 7 = .ok (.aload_n 0, 1) := by decide +kernel
theorem dX6_touch_8 : decode cX6_touch 8 = .ok (.getfield 21, 3) := by decide +kernel
theorem dX6_touch_11 : decode cX6_touch 11 = .ok (.iload_n 1, 1) := by decide +kernel
theorem dX6_touch_12 : decode cX6_touch 12 = .ok (.iaload, 1) := by decide +kernel
theorem dX6_touch_13 : decode cX6_touch 13 = .ok (.istore_n 3, 1) := by decide +kernel
theorem dX6_touch_14 : decode cX6_touch 14 = .ok (.aload_n 0, 1) := by decide +kernel
theorem dX6_touch_15 : decode cX6_touch 15 = .ok (.getfield 9, 3) := by decide +kernel
theorem dX6_touch_18 : decode cX6_touch 18 = .ok (.iload_n 2, 1) := by decide +kernel
theorem dX6_touch_19 : decode cX6_touch 19 = .ok (.iaload, 1) := by decide +kernel
theorem dX6_touch_20 : decode cX6_touch 20 = .ok (.i2l, 1) := by decide +kernel
theorem dX6_touch_21 : decode cX6_touch 21 = .ok (.lstore 4, 2) := by decide +kernel
theorem dX6_touch_23 : decode cX6_touch 23 = .ok (.aload_n 0, 1) := by decide +kernel
theorem dX6_touch_24 : decode cX6_touch 24 = .ok (.getfield 15, 3) := by decide +kernel
theorem dX6_touch_27 : decode cX6_touch 27 = .ok (.iload_n 2, 1) := by decide +kernel
theorem dX6_touch_28 : decode cX6_touch 28 = .ok (.iaload, 1) := by decide +kernel
theorem dX6_touch_29 : decode cX6_touch 29 = .ok (.i2l, 1) := by decide +kernel
theorem dX6_touch_30 : decode cX6_touch 30 = .ok (.lstore 6, 2) := by decide +kernel
theorem dX6_touch_32 : decode cX6_touch 32 = .ok (.aload_n 0, 1) := by decide +kernel
theorem dX6_touch_33 : decode cX6_touch 33 = .ok (.getfield 18, 3) := by decide +kernel
theorem dX6_touch_36 : decode cX6_touch 36 = .ok (.iload_n 1, 1) := by decide +kernel
theorem dX6_touch_37 : decode cX6_touch 37 = .ok (.iaload, 1) := by decide +kernel
theorem dX6_touch_38 : decode cX6_touch 38 = .ok (.ifCond .ne 36, 3) := by decide +kernel
theorem dX6_touch_41 : decode cX6_touch 41 = .ok (.aload_n 0, 1) := by decide +kernel
theorem dX6_touch_42 : decode cX6_touch 42 = .ok (.getfield 15, 3) := by decide +kernel
theorem dX6_touch_45 : decode cX6_touch 45 = .ok (.iload_n 2, 1) := by decide +kernel
theorem dX6_touch_46 : decode cX6_touch 46 = .ok (.iaload, 1) := by decide +kernel
theorem dX6_touch_47 : decode cX6_touch 47 = .ok (.iload_n 3, 1) := by decide +kernel
theorem dX6_touch_48 : decode cX6_touch 48 = .ok (.invokestatic 61, 3) := by decide +kernel
theorem dX6_touch_51 : decode cX6_touch 51 = .ok (.istore 8, 2) := by decide +kernel
theorem dX6_touch_53 : decode cX6_touch 53 = .ok (.lload 6, 2) := by decide +kernel
theorem dX6_touch_55 : decode cX6_touch 55 = .ok (.iload 8, 2) := by decide +kernel
theorem dX6_touch_57 : decode cX6_touch 57 = .ok (.i2l, 1) := by decide +kernel
theorem dX6_touch_58 : decode cX6_touch 58 = .ok (.lsub, 1) := by decide +kernel
theorem dX6_touch_59 : decode cX6_touch 59 = .ok (.lstore 6, 2) := by decide +kernel
theorem dX6_touch_61 : decode cX6_touch 61 = .ok (.lload 4, 2) := by decide +kernel
theorem dX6_touch_63 : decode cX6_touch 63 = .ok (.iload_n 3, 1) := by decide +kernel
theorem dX6_touch_64 : decode cX6_touch 64 = .ok (.iload 8, 2) := by decide +kernel
theorem dX6_touch_66 : decode cX6_touch 66 = .ok (.isub, 1) := by decide +kernel
theorem dX6_touch_67 : decode cX6_touch 67 = .ok (.i2l, 1) := by decide +kernel
theorem dX6_touch_68 : decode cX6_touch 68 = .ok (.lsub, 1) := by decide +kernel
theorem dX6_touch_69 : decode cX6_touch 69 = .ok (.lstore 4, 2) := by decide +kernel
theorem dX6_touch_71 : decode cX6_touch 71 = .ok (.goto 30, 3) := by decide +kernel
theorem dX6_touch_74 : decode cX6_touch 74 = .ok (.aload_n 0, 1) := by decide +kernel
theorem dX6_touch_75 : decode cX6_touch 75 = .ok (.getfield 18, 3) := by decide +kernel
theorem dX6_touch_78 : decode cX6_touch 78 = .ok (.iload_n 1, 1) := by decide +kernel
theorem dX6_touch_79 : decode cX6_touch 79 = .ok (.iaload, 1) := by decide +kernel
theorem dX6_touch_80 : decode cX6_touch 80 = .ok (.iconst 1, 1) := by decide +kernel
theorem dX6_touch_81 : decode cX6_touch 81 = .ok (.if_icmp .ne 13, 3) := by decide +kernel
theorem dX6_touch_84 : decode cX6_touch 84 = .ok (.lload 4, 2) := by decide +kernel
theorem dX6_touch_86 : decode cX6_touch 86 = .ok (.iload_n 3, 1) := by decide +kernel
theorem dX6_touch_87 : decode cX6_touch 87 = .ok (.i2l, 1) := by decide +kernel
theorem dX6_touch_88 : decode cX6_touch 88 = .ok (.ladd, 1) := by decide +kernel
theorem dX6_touch_89 : decode cX6_touch 89 = .ok (.lstore 4, 2) := by decide +kernel
theorem dX6_touch_91 : decode cX6_touch 91 = .ok (.goto 10, 3) := by decide +kernel
theorem dX6_touch_94 : decode cX6_touch 94 = .ok (.lload 6, 2) := by decide +kernel
theorem dX6_touch_96 : decode cX6_touch 96 = .ok (.iload_n 3, 1) := by decide +kernel
theorem dX6_touch_97 : decode cX6_touch 97 = .ok (.i2l, 1) := by decide +kernel
theorem dX6_touch_98 : decode cX6_touch 98 = .ok (.ladd, 1) := by decide +kernel
theorem dX6_touch_99 : decode cX6_touch 99 = .ok (.lstore 6, 2) := by decide +kernel
theorem dX6_touch_101 : decode cX6_touch 101 = .ok (.lload 4, 2) := by decide +kernel
theorem dX6_touch_103 : decode cX6_touch 103 = .ok (.ldc2_w 67, 3) := by decide +kernel
theorem dX6_touch_106 : decode cX6_touch 106 = .ok (.lcmp, 1) := by decide +kernel
theorem dX6_touch_107 : decode cX6_touch 107 = .ok (.ifCond .lt 21, 3) := by decide +kernel
theorem dX6_touch_110 : decode cX6_touch 110 = .ok (.lload 4, 2) := by decide +kernel
theorem dX6_touch_112 : decode cX6_touch 112 = .ok (.ldc2_w 69, 3) := by decide +kernel
theorem dX6_touch_115 : decode cX6_touch 115 = .ok (.lcmp, 1) := by decide +kernel
theorem dX6_touch_116 : decode cX6_touch 116 = .ok (.ifCond .gt 12, 3) := by decide +kernel
theorem dX6_touch_119 : decode cX6_touch 119 = .ok (.lload 6, 2) := by decide +kernel
theorem dX6_touch_121 : decode cX6_touch 121 = .ok (.ldc2_w 69, 3) := by decide +kernel
theorem dX6_touch_124 : decode cX6_touch 124 = .ok (.lcmp, 1) := by decide +kernel
theorem dX6_touch_125 : decode cX6_touch 125 = .ok (.ifCond .le 5, 3) := by decide +kernel
theorem dX6_touch_128 : decode cX6_touch 128 = .ok (.iconst 0, 1) := by decide +kernel
theorem dX6_touch_129 : decode cX6_touch 129 = .ok (.ireturn, 1) := by decide +kernel
theorem dX6_touch_130 : decode cX6_touch 130 = .ok (.aload_n 0, 1) := by decide +kernel
theorem dX6_touch_131 : decode cX6_touch 131 = .ok (.getfield 9, 3) := by decide +kernel
theorem dX6_touch_134 : decode cX6_touch 134 = .ok (.iload_n 2, 1) := by decide +kernel
theorem dX6_touch_135 : decode cX6_touch 135 = .ok (.lload 4, 2) := by decide +kernel
theorem dX6_touch_137 : decode cX6_touch 137 = .ok (.l2i, 1) := by decide +kernel
theorem dX6_touch_138 : decode cX6_touch 138 = .ok (.iastore, 1) := by decide +kernel
theorem dX6_touch_139 : decode cX6_touch 139 = .ok (.aload_n 0, 1) := by decide +kernel
theorem dX6_touch_140 : decode cX6_touch 140 = .ok (.getfield 15, 3) := by decide +kernel
theorem dX6_touch_143 : decode cX6_touch 143 = .ok (.iload_n 2, 1) := by decide +kernel
theorem dX6_touch_144 : decode cX6_touch 144 = .ok (.lload 6, 2) := by decide +kernel
theorem dX6_touch_146 : decode cX6_touch 146 = .ok (.l2i, 1) := by decide +kernel
theorem dX6_touch_147 : decode cX6_touch 147 = .ok (.iastore, 1) := by decide +kernel
theorem dX6_touch_148 : decode cX6_touch 148 = .ok (.iconst 1, 1) := by decide +kernel
theorem dX6_touch_149 : decode cX6_touch 149 = .ok (.ireturn, 1) := by decide +kernel
theorem dX7_init_0 : decode cX7_init 0 = .ok (.aload_n 0, 1) := by decide +kernel
theorem dX7_init_1 : decode cX7_init 1 = .ok (.invokespecial 3, 3) := by decide +kernel
theorem dX7_init_4 : decode cX7_init 4 = .ok (.aload_n 0, 1) := by decide +kernel
theorem dX7_init_5 : decode cX7_init 5 = .ok (.bipush 6, 2) := by decide +kernel
theorem dX7_init_7 : decode cX7_init 7 = .ok (.newarray .int, 2) := by decide +kernel
theorem dX7_init_9 : decode cX7_init 9 = .ok (.putfield 9, 3) := by decide +kernel
theorem dX7_init_12 : decode cX7_init 12 = .ok (.aload_n 0, 1) := by decide +kernel
theorem dX7_init_13 : decode cX7_init 13 = .ok (.bipush 6, 2) := by decide +kernel
theorem dX7_init_15 : decode cX7_init 15 = .ok (.newarray .int, 2) := by decide +kernel
theorem dX7_init_17 : decode cX7_init 17 = .ok (.putfield 15, 3) := by decide +kernel
theorem dX7_init_20 : decode cX7_init 20 = .ok (.aload_n 0, 1) := by decide +kernel
theorem dX7_init_21 : decode cX7_init 21 = .ok (.bipush 6, 2) := by decide +kernel
theorem dX7_init_23 : decode cX7_init 23 = .ok (.newarray .int, 2) := by decide +kernel
theorem dX7_init_25 : decode cX7_init 25 = .ok (.putfield 18, 3) := by decide +kernel
theorem dX7_init_28 : decode cX7_init 28 = .ok (.iconst 0, 1) := by decide +kernel
theorem dX7_init_29 : decode cX7_init 29 = .ok (.istore_n 1, 1) := by decide +kernel
theorem dX7_init_30 : decode cX7_init 30 = .ok (.iload_n 1, 1) := by decide +kernel
theorem dX7_init_31 : decode cX7_init 31 = .ok (.bipush 6, 2) := by decide +kernel
theorem dX7_init_33 : decode cX7_init 33 = .ok (.if_icmp .ge 23, 3) := by decide +kernel
theorem dX7_init_36 : decode cX7_init 36 = .ok (.aload_n 0, 1) := by decide +kernel
theorem dX7_init_37 : decode cX7_init 37 = .ok (.getfield 9, 3) := by decide +kernel
theorem dX7_init_40 : decode cX7_init 40 = .ok (.iload_n 1, 1) := by decide +kernel
theorem dX7_init_41 : decode cX7_init 41 = .ok (.iconst (-1), 1) := by decide +kernel
theorem dX7_init_42 : decode cX7_init 42 = .ok (.iastore, 1) := by decide +kernel
theorem dX7_init_43 : decode cX7_init 43 = .ok (.aload_n 0, 1) := by decide +kernel
theorem dX7_init_44 : decode cX7_init 44 = .ok (.getfield 15, 3) := by decide +kernel
theorem dX7_init_47 : decode cX7_init 47 = .ok (.iload_n 1, 1) := by decide +kernel
theorem dX7_init_48 : decode cX7_init 48 = .ok (.iconst (-1), 1) := by decide +kernel
theorem dX7_init_49 : decode cX7_init 49 = .ok (.iastore, 1) := by decide +kernel
theorem dX7_init_50 : decode cX7_init 50 = .ok (.iinc 1 1, 3) := by decide +kernel
theorem dX7_init_53 : decode cX7_init 53 = .ok (.goto (-23), 3) := by decide +kernel
theorem dX7_init_56 : decode cX7_init 56 = .ok (.return_, 1) := by decide +kernel
theorem dX7_tell_0 : decode cX7_tell 0 = .ok (.aload_n 0, 1) := by decide +kernel
theorem dX7_tell_1 : decode cX7_tell 1 = .ok (.getfield 9, 3) := by decide +kernel
theorem dX7_tell_4 : decode cX7_tell 4 = .ok (.iload_n 1, 1) := by decide +kernel
theorem dX7_tell_5 : decode cX7_tell 5 = .ok (.iload_n 2, 1) := by decide +kernel
theorem dX7_tell_6 : decode cX7_tell 6 = .ok (.iastore, 1) := by decide +kernel
theorem dX7_tell_7 : decode cX7_tell 7 = .ok (.aload_n 0, 1) := by decide +kernel
theorem dX7_tell_8 : decode cX7_tell 8 = .ok (.getfield 15, 3) := by decide +kernel
theorem dX7_tell_11 : decode cX7_tell 11 = .ok (.iload_n 1, 1) := by decide +kernel
theorem dX7_tell_12 : decode cX7_tell 12 = .ok (.iload_n 3, 1) := by decide +kernel
theorem dX7_tell_13 : decode cX7_tell 13 = .ok (.iastore, 1) := by decide +kernel
theorem dX7_tell_14 : decode cX7_tell 14 = .ok (.return_, 1) := by decide +kernel
set_option maxRecDepth 20000 in
theorem ggX7_findBest_X7_findGivers : GoodIn wsX7_findBest wsX7_findGivers := goodIn_r _ [5, 6, 7, 26, 27, 28, 29] (by decide +kernel) (by decide +kernel)
set_option maxRecDepth 20000 in
theorem gX7_findBest_X7_findGivers : GoodIn wsX7_findBest (wsV RX7 21 RX7 yX7_findGivers wsX7_findGivers) := goodIn_app (goodIn_of _ (by decide +kernel)) ggX7_findBest_X7_findGivers
set_option maxRecDepth 20000 in
theorem ggX7_findBest_X7_isGiver : GoodIn wsX7_findBest wsX7_isGiver := goodIn_r _ [11, 6, 26, 27, 28, 29] (by decide +kernel) (by decide +kernel)
set_option maxRecDepth 20000 in
theorem gX7_findBest_X7_isGiver : GoodIn wsX7_findBest (wsV RX7 25 RX7 yX7_isGiver wsX7_isGiver) := goodIn_app (goodIn_of _ (by decide +kernel)) ggX7_findBest_X7_isGiver
set_option maxRecDepth 20000 in
theorem ggX7_findBest_X7_joins : GoodIn wsX7_findBest wsX7_joins := goodIn_r _ [15, 16, 17, 18, 19, 4, 20, 7, 21, 8, 9, 10, 11, 6, 22, 23, 24, 25, 12, 13, 14, 26, 27, 28, 29] (by decide +kernel) (by decide +kernel)
set_option maxRecDepth 20000 in
theorem gX7_findBest_X7_joins : GoodIn wsX7_findBest (wsV RX7 29 RX7 yX7_joins wsX7_joins) := goodIn_app (goodIn_of _ (by decide +kernel)) ggX7_findBest_X7_joins
theorem dX7_findBest_0 : decode cX7_findBest 0 = .ok (.aload_n 0, 1) := by decide +kernel
theorem dX7_findBest_1 : decode cX7_findBest 1 = .ok (.aload_n 1, 1) := by decide +kernel
theorem dX7_findBest_2 : decode cX7_findBest 2 = .ok (.invokevirtual 21, 3) := by decide +kernel
theorem dX7_findBest_5 : decode cX7_findBest 5 = .ok (.iconst 2, 1) := by decide +kernel
theorem dX7_findBest_6 : decode cX7_findBest 6 = .ok (.istore_n 2, 1) := by decide +kernel
theorem dX7_findBest_7 : decode cX7_findBest 7 = .ok (.iload_n 2, 1) := by decide +kernel
theorem dX7_findBest_8 : decode cX7_findBest 8 = .ok (.bipush 6, 2) := by decide +kernel
theorem dX7_findBest_10 : decode cX7_findBest 10 = .ok (.if_icmp .gt 43, 3) := by decide +kernel
theorem dX7_findBest_13 : decode cX7_findBest 13 = .ok (.iconst 0, 1) := by decide +kernel
theorem dX7_findBest_14 : decode cX7_findBest 14 = .ok (.istore_n 3, 1) := by decide +kernel
theorem dX7_findBest_15 : decode cX7_findBest 15 = .ok (.iload_n 3, 1) := by decide +kernel
theorem dX7_findBest_16 : decode cX7_findBest 16 = .ok (.bipush 6, 2) := by decide +kernel
theorem dX7_findBest_18 : decode cX7_findBest 18 = .ok (.if_icmp .ge 29, 3) := by decide +kernel
theorem dX7_findBest_21 : decode cX7_findBest 21 = .ok (.aload_n 0, 1) := by decide +kernel
theorem dX7_findBest_22 : decode cX7_findBest 22 = .ok (.iload_n 3, 1) := by decide +kernel
theorem dX7_findBest_23 : decode cX7_findBest 23 = .ok (.invokevirtual 25, 3) := by decide +kernel
theorem dX7_findBest_26 : decode cX7_findBest 26 = .ok (.ifCond .eq 15, 3) := by decide +kernel
theorem dX7_findBest_29 : decode cX7_findBest 29 = .ok (.aload_n 0, 1) := by decide +kernel
theorem dX7_findBest_30 : decode cX7_findBest 30 = .ok (.iload_n 3, 1) := by decide +kernel
theorem dX7_findBest_31 : decode cX7_findBest 31 = .ok (.iconst 0, 1) := by decide +kernel
theorem dX7_findBest_32 : decode cX7_findBest 32 = .ok (.iload_n 2, 1) := by decide +kernel
theorem dX7_findBest_33 : decode cX7_findBest 33 = .ok (.invokevirtual 29, 3) := by decide +kernel
theorem dX7_findBest_36 : decode cX7_findBest 36 = .ok (.ifCond .eq 5, 3) := by decide +kernel
theorem dX7_findBest_39 : decode cX7_findBest 39 = .ok (.iload_n 2, 1) := by decide +kernel
theorem dX7_findBest_40 : decode cX7_findBest 40 = .ok (.ireturn, 1) := by decide +kernel
theorem dX7_findBest_41 : decode cX7_findBest 41 = .ok (.iinc 3 1, 3) := by decide +kernel
theorem dX7_findBest_44 : decode cX7_findBest 44 = .ok (.goto (-29), 3) := by decide +kernel
theorem dX7_findBest_47 : decode cX7_findBest 47 = .ok (.iinc 2 1, 3) := by decide +kernel
theorem dX7_findBest_50 : decode cX7_findBest 50 = .ok (.goto (-43), 3) := by decide +kernel
theorem dX7_findBest_53 : decode cX7_findBest 53 = .ok (.iconst 0, 1) := by decide +kernel
theorem dX7_findBest_54 : decode cX7_findBest 54 = .ok (.ireturn, 1) := by decide +kernel
set_option maxRecDepth 20000 in
theorem ggX7_fulfil_X7_tell : GoodIn wsX7_fulfil wsX7_tell := goodIn_r _ [8, 2, 3, 9, 10, 11, 12] (by decide +kernel) (by decide +kernel)
set_option maxRecDepth 20000 in
theorem gX7_fulfil_X7_tell : GoodIn wsX7_fulfil (wsV RX7 33 RX7 yX7_tell wsX7_tell) := goodIn_app (goodIn_of _ (by decide +kernel)) ggX7_fulfil_X7_tell
theorem dX7_fulfil_0 : decode cX7_fulfil 0 = .ok (.iconst 0, 1) := by decide +kernel
theorem dX7_fulfil_1 : decode cX7_fulfil 1 = .ok (.istore_n 3, 1) := by decide +kernel
theorem dX7_fulfil_2 : decode cX7_fulfil 2 = .ok (.iload_n 3, 1) := by decide +kernel
theorem dX7_fulfil_3 : decode cX7_fulfil 3 = .ok (.iload_n 1, 1) := by decide +kernel
theorem dX7_fulfil_4 : decode cX7_fulfil 4 = .ok (.if_icmp .ge 57, 3) := by decide +kernel
theorem dX7_fulfil_7 : decode cX7_fulfil 7 = .ok (.aload_n 0, 1) := by decide +kernel
theorem dX7_fulfil_8 : decode cX7_fulfil 8 = .ok (.getfield 18, 3) := by decide +kernel
theorem dX7_fulfil_11 : decode cX7_fulfil 11 = .ok (.iload_n 3, 1) := by decide +kernel
theorem dX7_fulfil_12 : decode cX7_fulfil 12 = .ok (.iaload, 1) := by decide +kernel
theorem dX7_fulfil_13 : decode cX7_fulfil 13 = .ok (.istore 4, 2) := by decide +kernel
theorem dX7_fulfil_15 : decode cX7_fulfil 15 = .ok (.aload_n 2, 1) := by decide +kernel
theorem dX7_fulfil_16 : decode cX7_fulfil 16 = .ok (.iload 4, 2) := by decide +kernel
theorem dX7_fulfil_18 : decode cX7_fulfil 18 = .ok (.aaload, 1) := by decide +kernel
theorem dX7_fulfil_19 : decode cX7_fulfil 19 = .ok (.aload_n 0, 1) := by decide +kernel
theorem dX7_fulfil_20 : decode cX7_fulfil 20 = .ok (.getfield 9, 3) := by decide +kernel
theorem dX7_fulfil_23 : decode cX7_fulfil 23 = .ok (.iload 4, 2) := by decide +kernel
theorem dX7_fulfil_25 : decode cX7_fulfil 25 = .ok (.iaload, 1) := by decide +kernel
theorem dX7_fulfil_26 : decode cX7_fulfil 26 = .ok (.dup2, 1) := by decide +kernel
theorem dX7_fulfil_27 : decode cX7_fulfil 27 = .ok (.iaload, 1) := by decide +kernel
theorem dX7_fulfil_28 : decode cX7_fulfil 28 = .ok (.iconst 1, 1) := by decide +kernel
theorem dX7_fulfil_29 : decode cX7_fulfil 29 = .ok (.isub, 1) := by decide +kernel
theorem dX7_fulfil_30 : decode cX7_fulfil 30 = .ok (.iastore, 1) := by decide +kernel
theorem dX7_fulfil_31 : decode cX7_fulfil 31 = .ok (.aload_n 2, 1) := by decide +kernel
theorem dX7_fulfil_32 : decode cX7_fulfil 32 = .ok (.iload 4, 2) := by decide +kernel
theorem dX7_fulfil_34 : decode cX7_fulfil 34 = .ok (.aaload, 1) := by decide +kernel
theorem dX7_fulfil_35 : decode cX7_fulfil 35 = .ok (.aload_n 0, 1) := by decide +kernel
theorem dX7_fulfil_36 : decode cX7_fulfil 36 = .ok (.getfield 15, 3) := by decide +kernel
theorem dX7_fulfil_39 : decode cX7_fulfil 39 = .ok (.iload 4, 2) := by decide +kernel
theorem dX7_fulfil_41 : decode cX7_fulfil 41 = .ok (.iaload, 1) := by decide +kernel
theorem dX7_fulfil_42 : decode cX7_fulfil 42 = .ok (.dup2, 1) := by decide +kernel
theorem dX7_fulfil_43 : decode cX7_fulfil 43 = .ok (.iaload, 1) := by decide +kernel
theorem dX7_fulfil_44 : decode cX7_fulfil 44 = .ok (.iconst 1, 1) := by decide +kernel
theorem dX7_fulfil_45 : decode cX7_fulfil 45 = .ok (.iadd, 1) := by decide +kernel
theorem dX7_fulfil_46 : decode cX7_fulfil 46 = .ok (.iastore, 1) := by decide +kernel
theorem dX7_fulfil_47 : decode cX7_fulfil 47 = .ok (.aload_n 0, 1) := by decide +kernel
theorem dX7_fulfil_48 : decode cX7_fulfil 48 = .ok (.iload 4, 2) := by decide +kernel
theorem dX7_fulfil_50 : decode cX7_fulfil 50 = .ok (.iconst (-1), 1) := by decide +kernel
theorem dX7_fulfil_51 : decode cX7_fulfil 51 = .ok (.iconst (-1), 1) := by decide +kernel
theorem dX7_fulfil_52 : decode cX7_fulfil 52 = .ok (.invokevirtual 33, 3) := by decide +kernel
theorem dX7_fulfil_55 : decode cX7_fulfil 55 = .ok (.iinc 3 1, 3) := by decide +kernel
theorem dX7_fulfil_58 : decode cX7_fulfil 58 = .ok (.goto (-56), 3) := by decide +kernel
theorem dX7_fulfil_61 : decode cX7_fulfil 61 = .ok (.return_, 1) := by decide +kernel
theorem dX7_findGivers_0 : decode cX7_findGivers 0 = .ok (.aload_n 0, 1) := by decide +kernel
theorem dX7_findGivers_1 : decode cX7_findGivers 1 = .ok (.iconst 0, 1) := by decide +kernel
theorem dX7_findGivers_2 : decode cX7_findGivers 2 = .ok (.putfield 37, 3) := by decide +kernel
theorem dX7_findGivers_5 : decode cX7_findGivers 5 = .ok (.iconst 0, 1) := by decide +kernel
theorem dX7_findGivers_6 : decode cX7_findGivers 6 = .ok (.istore_n 2, 1) := by decide +kernel
theorem dX7_findGivers_7 : decode cX7_findGivers 7 = .ok (.iload_n 2, 1) := by decide +kernel
theorem dX7_findGivers_8 : decode cX7_findGivers 8 = .ok (.bipush 6, 2) := by decide +kernel
theorem dX7_findGivers_10 : decode cX7_findGivers 10 = .ok (.if_icmp .ge 43, 3) := by decide +kernel
theorem dX7_findGivers_13 : decode cX7_findGivers 13 = .ok (.aload_n 0, 1) := by decide +kernel
theorem dX7_findGivers_14 : decode cX7_findGivers 14 = .ok (.getfield 9, 3) := by decide +kernel
theorem dX7_findGivers_17 : decode cX7_findGivers 17 = .ok (.iload_n 2, 1) := by decide +kernel
theorem dX7_findGivers_18 : decode cX7_findGivers 18 = .ok (.iaload, 1) := by decide +kernel
theorem dX7_findGivers_19 : decode cX7_findGivers 19 = .ok (.ifCond .lt 28, 3) := by decide +kernel
theorem dX7_findGivers_22 : decode cX7_findGivers 22 = .ok (.aload_n 1, 1) := by decide +kernel
theorem dX7_findGivers_23 : decode cX7_findGivers 23 = .ok (.iload_n 2, 1) := by decide +kernel
theorem dX7_findGivers_24 : decode cX7_findGivers 24 = .ok (.aaload, 1) := by decide +kernel
theorem dX7_findGivers_25 : decode cX7_findGivers 25 = .ok (.aload_n 0, 1) := by decide +kernel
theorem dX7_findGivers_26 : decode cX7_findGivers 26 = .ok (.getfield 9, 3) := by decide +kernel
theorem dX7_findGivers_29 : decode cX7_findGivers 29 = .ok (.iload_n 2, 1) := by decide +kernel
theorem dX7_findGivers_30 : decode cX7_findGivers 30 = .ok (.iaload, 1) := by decide +kernel
theorem dX7_findGivers_31 : decode cX7_findGivers 31 = .ok (.iaload, 1) := by decide +kernel
theorem dX7_findGivers_32 : decode cX7_findGivers 32 = .ok (.ifCond .le 15, 3) := by decide +kernel
theorem dX7_findGivers_35 : decode cX7_findGivers 35 = .ok (.aload_n 0, 1) := by decide +kernel
theorem dX7_findGivers_36 : decode cX7_findGivers 36 = .ok (.dup, 1) := by decide +kernel
theorem dX7_findGivers_37 : decode cX7_findGivers 37 = .ok (.getfield 37, 3) := by decide +kernel
theorem dX7_findGivers_40 : decode cX7_findGivers 40 = .ok (.iconst 1, 1) := by decide +kernel
theorem dX7_findGivers_41 : decode cX7_findGivers 41 = .ok (.iload_n 2, 1) := by decide +kernel
theorem dX7_findGivers_42 : decode cX7_findGivers 42 = .ok (.ishl, 1) := by decide +kernel
theorem dX7_findGivers_43 : decode cX7_findGivers 43 = .ok (.ior, 1) := by decide +kernel
theorem dX7_findGivers_44 : decode cX7_findGivers 44 = .ok (.putfield 37, 3) := by decide +kernel
theorem dX7_findGivers_47 : decode cX7_findGivers 47 = .ok (.iinc 2 1, 3) := by decide +kernel
theorem dX7_findGivers_50 : decode cX7_findGivers 50 = .ok (.goto (-43), 3) := by decide +kernel
theorem dX7_findGivers_53 : decode cX7_findGivers 53 = .ok (.return_, 1) := by decide +kernel
theorem dX7_isGiver_0 : decode cX7_isGiver 0 = .ok (.aload_n 0, 1) := by decide +kernel
theorem dX7_isGiver_1 : decode cX7_isGiver 1 = .ok (.getfield 37, 3) := by decide +kernel
theorem dX7_isGiver_4 : decode cX7_isGiver 4 = .ok (.iload_n 1, 1) := by decide +kernel
theorem dX7_isGiver_5 : decode cX7_isGiver 5 = .ok (.ishr, 1) := by decide +kernel
theorem dX7_isGiver_6 : decode cX7_isGiver 6 = .ok (.iconst 1, 1) := by decide +kernel
theorem dX7_isGiver_7 : decode cX7_isGiver 7 = .ok (.iand, 1) := by decide +kernel
theorem dX7_isGiver_8 : decode cX7_isGiver 8 = .ok (.iconst 1, 1) := by decide +kernel
theorem dX7_isGiver_9 : decode cX7_isGiver 9 = .ok (.if_icmp .ne 7, 3) := by decide +kernel
theorem dX7_isGiver_12 : decode cX7_isGiver 12 = .ok (.iconst 1, 1) := by decide +kernel
theorem dX7_isGiver_13 : decode cX7_isGiver 13 = .ok (.goto 4, 3) := by decide +kernel
theorem dX7_isGiver_16 : decode cX7_isGiver 16 = .ok (.iconst 0, 1) := by decide +kernel
theorem dX7_isGiver_17 : decode cX7_isGiver 17 = .ok (.ireturn, 1) := by decide +kernel
set_option maxRecDepth 20000 in
theorem ggX7_joins_X7_isRing : GoodIn wsX7_joins wsX7_isRing := goodIn_r _ [6, 1, 7, 8, 9, 10, 11, 5, 12, 13, 14, 15, 16, 17, 18, 19, 20, 0, 2, 3, 4, 21, 22, 23, 24] (by decide +kernel) (by decide +kernel)
set_option maxRecDepth 20000 in
theorem gX7_joins_X7_isRing : GoodIn wsX7_joins (wsV RX7 41 RX7 yX7_isRing wsX7_isRing) := goodIn_app (goodIn_of _ (by decide +kernel)) ggX7_joins_X7_isRing
theorem dX7_joins_0 : decode cX7_joins 0 = .ok (.iload_n 2, 1) := by decide +kernel
theorem dX7_joins_1 : decode cX7_joins 1 = .ok (.bipush 6, 2) := by decide +kernel
theorem dX7_joins_3 : decode cX7_joins 3 = .ok (.if_icmp .lt 5, 3) := by decide +kernel
theorem dX7_joins_6 : decode cX7_joins 6 = .ok (.iconst 0, 1) := by decide +kernel
theorem dX7_joins_7 : decode cX7_joins 7 = .ok (.ireturn, 1) := by decide +kernel
theorem dX7_joins_8 : decode cX7_joins 8 = .ok (.aload_n 0, 1) := by decide +kernel
theorem dX7_joins_9 : decode cX7_joins 9 = .ok (.getfield 18, 3) := by decide +kernel
theorem dX7_joins_12 : decode cX7_joins 12 = .ok (.iload_n 2, 1) := by decide +kernel
theorem dX7_joins_13 : decode cX7_joins 13 = .ok (.iload_n 1, 1) := by decide +kernel
theorem dX7_joins_14 : decode cX7_joins 14 = .ok (.iastore, 1) := by decide +kernel
theorem dX7_joins_15 : decode cX7_joins 15 = .ok (.aload_n 0, 1) := by decide +kernel
theorem dX7_joins_16 : decode cX7_joins 16 = .ok (.iload_n 2, 1) := by decide +kernel
theorem dX7_joins_17 : decode cX7_joins 17 = .ok (.iconst 1, 1) := by decide +kernel
theorem dX7_joins_18 : decode cX7_joins 18 = .ok (.iadd, 1) := by decide +kernel
theorem dX7_joins_19 : decode cX7_joins 19 = .ok (.iload_n 3, 1) := by decide +kernel
theorem dX7_joins_20 : decode cX7_joins 20 = .ok (.invokevirtual 41, 3) := by decide +kernel
theorem dX7_joins_23 : decode cX7_joins 23 = .ok (.ireturn, 1) := by decide +kernel
set_option maxRecDepth 20000 in
theorem ggX7_isRing_X7_isGiver : GoodIn wsX7_isRing wsX7_isGiver := goodIn_r _ [8, 9, 21, 22, 23, 24] (by decide +kernel) (by decide +kernel)
set_option maxRecDepth 20000 in
theorem gX7_isRing_X7_isGiver : GoodIn wsX7_isRing (wsV RX7 25 RX7 yX7_isGiver wsX7_isGiver) := goodIn_app (goodIn_of _ (by decide +kernel)) ggX7_isRing_X7_isGiver
set_option maxRecDepth 20000 in
theorem ggX7_isRing_X7_isInRow : GoodIn wsX7_isRing wsX7_isInRow := goodIn_r _ [13, 1, 21, 22, 23, 24] (by decide +kernel) (by decide +kernel)
set_option maxRecDepth 20000 in
theorem gX7_isRing_X7_isInRow : GoodIn wsX7_isRing (wsV RX7 45 RX7 yX7_isInRow wsX7_isInRow) := goodIn_app (goodIn_of _ (by decide +kernel)) ggX7_isRing_X7_isInRow
set_option maxRecDepth 20000 in
theorem ggX7_isRing_X7_joins : GoodIn wsX7_isRing wsX7_joins := goodIn_r _ [17, 1, 18, 19, 20, 7, 0, 2, 3, 4, 5, 6, 8, 9, 10, 11, 12, 13, 14, 15, 16, 21, 22, 23, 24] (by decide +kernel) (by decide +kernel)
set_option maxRecDepth 20000 in
theorem gX7_isRing_X7_joins : GoodIn wsX7_isRing (wsV RX7 29 RX7 yX7_joins wsX7_joins) := goodIn_app (goodIn_of _ (by decide +kernel)) ggX7_isRing_X7_joins
theorem dX7_isRing_0 : decode cX7_isRing 0 = .ok (.aload_n 0, 1) := by decide +kernel
theorem dX7_isRing_1 : decode cX7_isRing 1 = .ok (.getfield 18, 3) := by decide +kernel
theorem dX7_isRing_4 : decode cX7_isRing 4 = .ok (.iload_n 1, 1) := by decide +kernel
theorem dX7_isRing_5 : decode cX7_isRing 5 = .ok (.iconst 1, 1) := by decide +kernel
theorem dX7_isRing_6 : decode cX7_isRing 6 = .ok (.isub, 1) := by decide +kernel
theorem dX7_isRing_7 : decode cX7_isRing 7 = .ok (.iaload, 1) := by decide +kernel
theorem dX7_isRing_8 : decode cX7_isRing 8 = .ok (.istore_n 3, 1) := by decide +kernel
theorem dX7_isRing_9 : decode cX7_isRing 9 = .ok (.iload_n 1, 1) := by decide +kernel
theorem dX7_isRing_10 : decode cX7_isRing 10 = .ok (.iload_n 2, 1) := by decide +kernel
theorem dX7_isRing_11 : decode cX7_isRing 11 = .ok (.if_icmp .ne 29, 3) := by decide +kernel
theorem dX7_isRing_14 : decode cX7_isRing 14 = .ok (.aload_n 0, 1) := by decide +kernel
theorem dX7_isRing_15 : decode cX7_isRing 15 = .ok (.getfield 9, 3) := by decide +kernel
theorem dX7_isRing_18 : decode cX7_isRing 18 = .ok (.iload_n 3, 1) := by decide +kernel
theorem dX7_isRing_19 : decode cX7_isRing 19 = .ok (.iaload, 1) := by decide +kernel
theorem dX7_isRing_20 : decode cX7_isRing 20 = .ok (.aload_n 0, 1) := by decide +kernel
theorem dX7_isRing_21 : decode cX7_isRing 21 = .ok (.getfield 15, 3) := by decide +kernel
theorem dX7_isRing_24 : decode cX7_isRing 24 = .ok (.aload_n 0, 1) := by decide +kernel
theorem dX7_isRing_25 : decode cX7_isRing 25 = .ok (.getfield 18, 3) := by decide +kernel
theorem dX7_isRing_28 : decode cX7_isRing 28 = .ok (.iconst 0, 1) := by decide +kernel
theorem dX7_isRing_29 : decode cX7_isRing 29 = .ok (.iaload, 1) := by decide +kernel
theorem dX7_isRing_30 : decode cX7_isRing 30 = .ok (.iaload, 1) := by decide +kernel
theorem dX7_isRing_31 : decode cX7_isRing 31 = .ok (.if_icmp .ne 7, 3) := by decide +kernel
theorem dX7_isRing_34 : decode cX7_isRing 34 = .ok (.iconst 1, 1) := by decide +kernel
theorem dX7_isRing_35 : decode cX7_isRing 35 = .ok (.goto 4, 3) := by decide +kernel
theorem dX7_isRing_38 : decode cX7_isRing 38 = .ok (.iconst 0, 1) := by decide +kernel
theorem dX7_isRing_39 : decode cX7_isRing 39 = .ok (.ireturn, 1) := by decide +kernel
theorem dX7_isRing_40 : decode cX7_isRing 40 = .ok (.aload_n 0, 1) := by decide +kernel
theorem dX7_isRing_41 : decode cX7_isRing 41 = .ok (.getfield 18, 3) := by decide +kernel
theorem dX7_isRing_44 : decode cX7_isRing 44 = .ok (.iconst 0, 1) := by decide +kernel
theorem dX7_isRing_45 : decode cX7_isRing 45 = .ok (.iaload, 1) := by decide +kernel
theorem dX7_isRing_46 : decode cX7_isRing 46 = .ok (.iconst 1, 1) := by decide +kernel
theorem dX7_isRing_47 : decode cX7_isRing 47 = .ok (.iadd, 1) := by decide +kernel
theorem dX7_isRing_48 : decode cX7_isRing 48 = .ok (.istore 4, 2) := by decide +kernel
theorem dX7_isRing_50 : decode cX7_isRing 50 = .ok (.iload 4, 2) := by decide +kernel
theorem dX7_isRing_52 : decode cX7_isRing 52 = .ok (.bipush 6, 2) := by decide +kernel
theorem dX7_isRing_54 : decode cX7_isRing 54 = .ok (.if_icmp .ge 69, 3) := by decide +kernel
theorem dX7_isRing_57 : decode cX7_isRing 57 = .ok (.aload_n 0, 1) := by decide +kernel
theorem dX7_isRing_58 : decode cX7_isRing 58 = .ok (.iload 4, 2) := by decide +kernel
theorem dX7_isRing_60 : decode cX7_isRing 60 = .ok (.invokevirtual 25, 3) := by decide +kernel
