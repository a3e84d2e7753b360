theorem dX9_swap_53 : decode cX9_swap 53 = .ok (.getfield 88, 3) := by decide +kernel
theorem dX9_swap_56 : decode cX9_swap 56 = .ok (.iload_n 1, 1) := by decide +kernel
theorem dX9_swap_57 : decode cX9_swap 57 = .ok (.iconst 1, 1) := by decide +kernel
theorem dX9_swap_58 : decode cX9_swap 58 = .ok (.iadd, 1) := by decide +kernel
theorem dX9_swap_59 : decode cX9_swap 59 = .ok (.aload_n 0, 1) := by decide +kernel
theorem dX9_swap_60 : decode cX9_swap 60 = .ok (.getfield 170, 3) := by decide +kernel
theorem dX9_swap_63 : decode cX9_swap 63 = .ok (.irem, 1) := by decide +kernel
theorem dX9_swap_64 : decode cX9_swap 64 = .ok (.iaload, 1) := by decide +kernel
theorem dX9_swap_65 : decode cX9_swap 65 = .ok (.imul, 1) := by decide +kernel
theorem dX9_swap_66 : decode cX9_swap 66 = .ok (.aload_n 0, 1) := by decide +kernel
theorem dX9_swap_67 : decode cX9_swap 67 = .ok (.getfield 63, 3) := by decide +kernel
theorem dX9_swap_70 : decode cX9_swap 70 = .ok (.iload_n 2, 1) := by decide +kernel
theorem dX9_swap_71 : decode cX9_swap 71 = .ok (.iaload, 1) := by decide +kernel
theorem dX9_swap_72 : decode cX9_swap 72 = .ok (.iadd, 1) := by decide +kernel
theorem dX9_swap_73 : decode cX9_swap 73 = .ok (.dup2, 1) := by decide +kernel
theorem dX9_swap_74 : decode cX9_swap 74 = .ok (.iaload, 1) := by decide +kernel
theorem dX9_swap_75 : decode cX9_swap 75 = .ok (.iconst 1, 1) := by decide +kernel
theorem dX9_swap_76 : decode cX9_swap 76 = .ok (.iadd, 1) := by decide +kernel
theorem dX9_swap_77 : decode cX9_swap 77 = .ok (.iastore, 1) := by decide +kernel
theorem dX9_swap_78 : decode cX9_swap 78 = .ok (.iinc 1 1, 3) := by decide +kernel
theorem dX9_swap_81 : decode cX9_swap 81 = .ok (.goto (-70), 3) := by decide +kernel
theorem dX9_swap_84 : decode cX9_swap 84 = .ok (.iconst 0, 1) := by decide +kernel
theorem dX9_swap_85 : decode cX9_swap 85 = .ok (.istore_n 1, 1) := by decide +kernel
theorem dX9_swap_86 : decode cX9_swap 86 = .ok (.iload_n 1, 1) := by decide +kernel
theorem dX9_swap_87 : decode cX9_swap 87 = .ok (.aload_n 0, 1) := by decide +kernel
theorem dX9_swap_88 : decode cX9_swap 88 = .ok (.getfield 170, 3) := by decide +kernel
theorem dX9_swap_91 : decode cX9_swap 91 = .ok (.if_icmp .ge 21, 3) := by decide +kernel
theorem dX9_swap_94 : decode cX9_swap 94 = .ok (.aload_n 0, 1) := by decide +kernel
theorem dX9_swap_95 : decode cX9_swap 95 = .ok (.getfield 63, 3) := by decide +kernel
theorem dX9_swap_98 : decode cX9_swap 98 = .ok (.aload_n 0, 1) := by decide +kernel
theorem dX9_swap_99 : decode cX9_swap 99 = .ok (.getfield 88, 3) := by decide +kernel
theorem dX9_swap_102 : decode cX9_swap 102 = .ok (.iload_n 1, 1) := by decide +kernel
theorem dX9_swap_103 : decode cX9_swap 103 = .ok (.iaload, 1) := by decide +kernel
theorem dX9_swap_104 : decode cX9_swap 104 = .ok (.iconst (-1), 1) := by decide +kernel
theorem dX9_swap_105 : decode cX9_swap 105 = .ok (.iastore, 1) := by decide +kernel
theorem dX9_swap_106 : decode cX9_swap 106 = .ok (.iinc 1 1, 3) := by decide +kernel
theorem dX9_swap_109 : decode cX9_swap 109 = .ok (.goto (-23), 3) := by decide +kernel
theorem dX9_swap_112 : decode cX9_swap 112 = .ok (.aload_n 0, 1) := by decide +kernel
theorem dX9_swap_113 : decode cX9_swap 113 = .ok (.getfield 170, 3) := by decide +kernel
theorem dX9_swap_116 : decode cX9_swap 116 = .ok (.ireturn, 1) := by decide +kernel
theorem dX9_rowOf_0 : decode cX9_rowOf 0 = .ok (.aload_n 0, 1) := by decide +kernel
theorem dX9_rowOf_1 : decode cX9_rowOf 1 = .ok (.iconst 0, 1) := by decide +kernel
theorem dX9_rowOf_2 : decode cX9_rowOf 2 = .ok (.putfield 179, 3) := by decide +kernel
theorem dX9_rowOf_5 : decode cX9_rowOf 5 = .ok (.iconst 0, 1) := by decide +kernel
theorem dX9_rowOf_6 : decode cX9_rowOf 6 = .ok (.istore_n 2, 1) := by decide +kernel
theorem dX9_rowOf_7 : decode cX9_rowOf 7 = .ok (.iload_n 2, 1) := by decide +kernel
theorem dX9_rowOf_8 : decode cX9_rowOf 8 = .ok (.bipush 6, 2) := by decide +kernel
theorem dX9_rowOf_10 : decode cX9_rowOf 10 = .ok (.if_icmp .ge 86, 3) := by decide +kernel
theorem dX9_rowOf_13 : decode cX9_rowOf 13 = .ok (.iload_n 1, 1) := by decide +kernel
theorem dX9_rowOf_14 : decode cX9_rowOf 14 = .ok (.iload_n 2, 1) := by decide +kernel
theorem dX9_rowOf_15 : decode cX9_rowOf 15 = .ok (.ishr, 1) := by decide +kernel
theorem dX9_rowOf_16 : decode cX9_rowOf 16 = .ok (.iconst 1, 1) := by decide +kernel
theorem dX9_rowOf_17 : decode cX9_rowOf 17 = .ok (.iand, 1) := by decide +kernel
theorem dX9_rowOf_18 : decode cX9_rowOf 18 = .ok (.iconst 1, 1) := by decide +kernel
theorem dX9_rowOf_19 : decode cX9_rowOf 19 = .ok (.if_icmp .ne 71, 3) := by decide +kernel
theorem dX9_rowOf_22 : decode cX9_rowOf 22 = .ok (.aload_n 0, 1) := by decide +kernel
theorem dX9_rowOf_23 : decode cX9_rowOf 23 = .ok (.getfield 179, 3) := by decide +kernel
theorem dX9_rowOf_26 : decode cX9_rowOf 26 = .ok (.istore_n 3, 1) := by decide +kernel
theorem dX9_rowOf_27 : decode cX9_rowOf 27 = .ok (.iload_n 3, 1) := by decide +kernel
theorem dX9_rowOf_28 : decode cX9_rowOf 28 = .ok (.ifCond .le 45, 3) := by decide +kernel
theorem dX9_rowOf_31 : decode cX9_rowOf 31 = .ok (.aload_n 0, 1) := by decide +kernel
theorem dX9_rowOf_32 : decode cX9_rowOf 32 = .ok (.getfield 28, 3) := by decide +kernel
theorem dX9_rowOf_35 : decode cX9_rowOf 35 = .ok (.aload_n 0, 1) := by decide +kernel
theorem dX9_rowOf_36 : decode cX9_rowOf 36 = .ok (.getfield 91, 3) := by decide +kernel
theorem dX9_rowOf_39 : decode cX9_rowOf 39 = .ok (.iload_n 3, 1) := by decide +kernel
theorem dX9_rowOf_40 : decode cX9_rowOf 40 = .ok (.iconst 1, 1) := by decide +kernel
theorem dX9_rowOf_41 : decode cX9_rowOf 41 = .ok (.isub, 1) := by decide +kernel
theorem dX9_rowOf_42 : decode cX9_rowOf 42 = .ok (.iaload, 1) := by decide +kernel
theorem dX9_rowOf_43 : decode cX9_rowOf 43 = .ok (.iaload, 1) := by decide +kernel
theorem dX9_rowOf_44 : decode cX9_rowOf 44 = .ok (.aload_n 0, 1) := by decide +kernel
theorem dX9_rowOf_45 : decode cX9_rowOf 45 = .ok (.getfield 28, 3) := by decide +kernel
theorem dX9_rowOf_48 : decode cX9_rowOf 48 = .ok (.iload_n 2, 1) := by decide +kernel
theorem dX9_rowOf_49 : decode cX9_rowOf 49 = .ok (.iaload, 1) := by decide +kernel
theorem dX9_rowOf_50 : decode cX9_rowOf 50 = .ok (.if_icmp .ge 23, 3) := by decide +kernel
theorem dX9_rowOf_53 : decode cX9_rowOf 53 = .ok (.aload_n 0, 1) := by decide +kernel
theorem dX9_rowOf_54 : decode cX9_rowOf 54 = .ok (.getfield 91, 3) := by decide +kernel
theorem dX9_rowOf_57 : decode cX9_rowOf 57 = .ok (.iload_n 3, 1) := by decide +kernel
theorem dX9_rowOf_58 : decode cX9_rowOf 58 = .ok (.aload_n 0, 1) := by decide +kernel
theorem dX9_rowOf_59 : decode cX9_rowOf 59 = .ok (.getfield 91, 3) := by decide +kernel
theorem dX9_rowOf_62 : decode cX9_rowOf 62 = .ok (.iload_n 3, 1) := by decide +kernel
theorem dX9_rowOf_63 : decode cX9_rowOf 63 = .ok (.iconst 1, 1) := by decide +kernel
theorem dX9_rowOf_64 : decode cX9_rowOf 64 = .ok (.isub, 1) := by decide +kernel
theorem dX9_rowOf_65 : decode cX9_rowOf 65 = .ok (.iaload, 1) := by decide +kernel
theorem dX9_rowOf_66 : decode cX9_rowOf 66 = .ok (.iastore, 1) := by decide +kernel
theorem dX9_rowOf_67 : decode cX9_rowOf 67 = .ok (.iinc 3 (-1), 3) := by decide +kernel
theorem dX9_rowOf_70 : decode cX9_rowOf 70 = .ok (.goto (-43), 3) := by decide +kernel
theorem dX9_rowOf_73 : decode cX9_rowOf 73 = .ok (.aload_n 0, 1) := by decide +kernel
theorem dX9_rowOf_74 : decode cX9_rowOf 74 = .ok (.getfield 91, 3) := by decide +kernel
theorem dX9_rowOf_77 : decode cX9_rowOf 77 = .ok (.iload_n 3, 1) := by decide +kernel
theorem dX9_rowOf_78 : decode cX9_rowOf 78 = .ok (.iload_n 2, 1) := by decide +kernel
theorem dX9_rowOf_79 : decode cX9_rowOf 79 = .ok (.iastore, 1) := by decide +kernel
theorem dX9_rowOf_80 : decode cX9_rowOf 80 = .ok (.aload_n 0, 1) := by decide +kernel
theorem dX9_rowOf_81 : decode cX9_rowOf 81 = .ok (.dup, 1) := by decide +kernel
theorem dX9_rowOf_82 : decode cX9_rowOf 82 = .ok (.getfield 179, 3) := by decide +kernel
theorem dX9_rowOf_85 : decode cX9_rowOf 85 = .ok (.iconst 1, 1) := by decide +kernel
theorem dX9_rowOf_86 : decode cX9_rowOf 86 = .ok (.iadd, 1) := by decide +kernel
theorem dX9_rowOf_87 : decode cX9_rowOf 87 = .ok (.putfield 179, 3) := by decide +kernel
theorem dX9_rowOf_90 : decode cX9_rowOf 90 = .ok (.iinc 2 1, 3) := by decide +kernel
theorem dX9_rowOf_93 : decode cX9_rowOf 93 = .ok (.goto (-86), 3) := by decide +kernel
theorem dX9_rowOf_96 : decode cX9_rowOf 96 = .ok (.aload_n 0, 1) := by decide +kernel
theorem dX9_rowOf_97 : decode cX9_rowOf 97 = .ok (.dup, 1) := by decide +kernel
theorem dX9_rowOf_98 : decode cX9_rowOf 98 = .ok (.getfield 179, 3) := by decide +kernel
theorem dX9_rowOf_101 : decode cX9_rowOf 101 = .ok (.aload_n 0, 1) := by decide +kernel
theorem dX9_rowOf_102 : decode cX9_rowOf 102 = .ok (.getfield 179, 3) := by decide +kernel
theorem dX9_rowOf_105 : decode cX9_rowOf 105 = .ok (.iconst 2, 1) := by decide +kernel
theorem dX9_rowOf_106 : decode cX9_rowOf 106 = .ok (.irem, 1) := by decide +kernel
theorem dX9_rowOf_107 : decode cX9_rowOf 107 = .ok (.isub, 1) := by decide +kernel
theorem dX9_rowOf_108 : decode cX9_rowOf 108 = .ok (.putfield 179, 3) := by decide +kernel
theorem dX9_rowOf_111 : decode cX9_rowOf 111 = .ok (.return_, 1) := by decide +kernel
theorem dX9_placeOf_0 : decode cX9_placeOf 0 = .ok (.iconst 0, 1) := by decide +kernel
theorem dX9_placeOf_1 : decode cX9_placeOf 1 = .ok (.istore_n 2, 1) := by decide +kernel
theorem dX9_placeOf_2 : decode cX9_placeOf 2 = .ok (.iload_n 1, 1) := by decide +kernel
theorem dX9_placeOf_3 : decode cX9_placeOf 3 = .ok (.istore_n 3, 1) := by decide +kernel
theorem dX9_placeOf_4 : decode cX9_placeOf 4 = .ok (.iload_n 0, 1) := by decide +kernel
theorem dX9_placeOf_5 : decode cX9_placeOf 5 = .ok (.iload_n 2, 1) := by decide +kernel
theorem dX9_placeOf_6 : decode cX9_placeOf 6 = .ok (.ishr, 1) := by decide +kernel
theorem dX9_placeOf_7 : decode cX9_placeOf 7 = .ok (.iconst 1, 1) := by decide +kernel
theorem dX9_placeOf_8 : decode cX9_placeOf 8 = .ok (.iand, 1) := by decide +kernel
theorem dX9_placeOf_9 : decode cX9_placeOf 9 = .ok (.iconst 1, 1) := by decide +kernel
theorem dX9_placeOf_10 : decode cX9_placeOf 10 = .ok (.if_icmp .eq 7, 3) := by decide +kernel
theorem dX9_placeOf_13 : decode cX9_placeOf 13 = .ok (.iload_n 3, 1) := by decide +kernel
theorem dX9_placeOf_14 : decode cX9_placeOf 14 = .ok (.ifCond .le 25, 3) := by decide +kernel
theorem dX9_placeOf_17 : decode cX9_placeOf 17 = .ok (.iload_n 3, 1) := by decide +kernel
theorem dX9_placeOf_18 : decode cX9_placeOf 18 = .ok (.iload_n 0, 1) := by decide +kernel
theorem dX9_placeOf_19 : decode cX9_placeOf 19 = .ok (.iload_n 2, 1) := by decide +kernel
theorem dX9_placeOf_20 : decode cX9_placeOf 20 = .ok (.ishr, 1) := by decide +kernel
theorem dX9_placeOf_21 : decode cX9_placeOf 21 = .ok (.iconst 1, 1) := by decide +kernel
theorem dX9_placeOf_22 : decode cX9_placeOf 22 = .ok (.iand, 1) := by decide +kernel
theorem dX9_placeOf_23 : decode cX9_placeOf 23 = .ok (.ifCond .ne 7, 3) := by decide +kernel
theorem dX9_placeOf_26 : decode cX9_placeOf 26 = .ok (.iconst 1, 1) := by decide +kernel
theorem dX9_placeOf_27 : decode cX9_placeOf 27 = .ok (.goto 4, 3) := by decide +kernel
theorem dX9_placeOf_30 : decode cX9_placeOf 30 = .ok (.iconst 0, 1) := by decide +kernel
theorem dX9_placeOf_31 : decode cX9_placeOf 31 = .ok (.isub, 1) := by decide +kernel
theorem dX9_placeOf_32 : decode cX9_placeOf 32 = .ok (.istore_n 3, 1) := by decide +kernel
theorem dX9_placeOf_33 : decode cX9_placeOf 33 = .ok (.iinc 2 1, 3) := by decide +kernel
theorem dX9_placeOf_36 : decode cX9_placeOf 36 = .ok (.goto (-32), 3) := by decide +kernel
theorem dX9_placeOf_39 : decode cX9_placeOf 39 = .ok (.iload_n 2, 1) := by decide +kernel
theorem dX9_placeOf_40 : decode cX9_placeOf 40 = .ok (.ireturn, 1) := by decide +kernel
set_option maxRecDepth 20000 in
theorem ggX9_pairedIn_X9_placeOf : GoodIn wsX9_pairedIn wsX9_placeOf := goodIn_r _ [7] (by decide +kernel) (by decide +kernel)
set_option maxRecDepth 20000 in
theorem gX9_pairedIn_X9_placeOf : GoodIn wsX9_pairedIn (va_wsS RX9 182 yX9_placeOf wsX9_placeOf) := goodIn_app (goodIn_of _ (by decide +kernel)) ggX9_pairedIn_X9_placeOf
theorem dX9_pairedIn_0 : decode cX9_pairedIn 0 = .ok (.iconst 0, 1) := by decide +kernel
theorem dX9_pairedIn_1 : decode cX9_pairedIn 1 = .ok (.istore_n 3, 1) := by decide +kernel
theorem dX9_pairedIn_2 : decode cX9_pairedIn 2 = .ok (.iload_n 2, 1) := by decide +kernel
theorem dX9_pairedIn_3 : decode cX9_pairedIn 3 = .ok (.istore 4, 2) := by decide +kernel
theorem dX9_pairedIn_5 : decode cX9_pairedIn 5 = .ok (.bipush (-2), 2) := by decide +kernel
theorem dX9_pairedIn_7 : decode cX9_pairedIn 7 = .ok (.istore 5, 2) := by decide +kernel
theorem dX9_pairedIn_9 : decode cX9_pairedIn 9 = .ok (.aload_n 0, 1) := by decide +kernel
theorem dX9_pairedIn_10 : decode cX9_pairedIn 10 = .ok (.getfield 179, 3) := by decide +kernel
theorem dX9_pairedIn_13 : decode cX9_pairedIn 13 = .ok (.bipush 6, 2) := by decide +kernel
theorem dX9_pairedIn_15 : decode cX9_pairedIn 15 = .ok (.if_icmp .ne 7, 3) := by decide +kernel
theorem dX9_pairedIn_18 : decode cX9_pairedIn 18 = .ok (.iconst 3, 1) := by decide +kernel
theorem dX9_pairedIn_19 : decode cX9_pairedIn 19 = .ok (.goto 4, 3) := by decide +kernel
theorem dX9_pairedIn_22 : decode cX9_pairedIn 22 = .ok (.iconst 1, 1) := by decide +kernel
theorem dX9_pairedIn_23 : decode cX9_pairedIn 23 = .ok (.istore 6, 2) := by decide +kernel
theorem dX9_pairedIn_25 : decode cX9_pairedIn 25 = .ok (.aload_n 0, 1) := by decide +kernel
theorem dX9_pairedIn_26 : decode cX9_pairedIn 26 = .ok (.getfield 179, 3) := by decide +kernel
theorem dX9_pairedIn_29 : decode cX9_pairedIn 29 = .ok (.istore 7, 2) := by decide +kernel
theorem dX9_pairedIn_31 : decode cX9_pairedIn 31 = .ok (.iload 7, 2) := by decide +kernel
theorem dX9_pairedIn_33 : decode cX9_pairedIn 33 = .ok (.ifCond .le 143, 3) := by decide +kernel
theorem dX9_pairedIn_36 : decode cX9_pairedIn 36 = .ok (.iload_n 3, 1) := by decide +kernel
theorem dX9_pairedIn_37 : decode cX9_pairedIn 37 = .ok (.iconst 0, 1) := by decide +kernel
theorem dX9_pairedIn_38 : decode cX9_pairedIn 38 = .ok (.invokestatic 182, 3) := by decide +kernel
theorem dX9_pairedIn_41 : decode cX9_pairedIn 41 = .ok (.istore 8, 2) := by decide +kernel
theorem dX9_pairedIn_43 : decode cX9_pairedIn 43 = .ok (.iload_n 3, 1) := by decide +kernel
theorem dX9_pairedIn_44 : decode cX9_pairedIn 44 = .ok (.iconst 1, 1) := by decide +kernel
theorem dX9_pairedIn_45 : decode cX9_pairedIn 45 = .ok (.iload 8, 2) := by decide +kernel
theorem dX9_pairedIn_47 : decode cX9_pairedIn 47 = .ok (.ishl, 1) := by decide +kernel
theorem dX9_pairedIn_48 : decode cX9_pairedIn 48 = .ok (.ior, 1) := by decide +kernel
theorem dX9_pairedIn_49 : decode cX9_pairedIn 49 = .ok (.istore_n 3, 1) := by decide +kernel
theorem dX9_pairedIn_50 : decode cX9_pairedIn 50 = .ok (.iload 7, 2) := by decide +kernel
theorem dX9_pairedIn_52 : decode cX9_pairedIn 52 = .ok (.bipush 6, 2) := by decide +kernel
theorem dX9_pairedIn_54 : decode cX9_pairedIn 54 = .ok (.if_icmp .ne 11, 3) := by decide +kernel
theorem dX9_pairedIn_57 : decode cX9_pairedIn 57 = .ok (.iload 4, 2) := by decide +kernel
theorem dX9_pairedIn_59 : decode cX9_pairedIn 59 = .ok (.iload 6, 2) := by decide +kernel
theorem dX9_pairedIn_61 : decode cX9_pairedIn 61 = .ok (.idiv, 1) := by decide +kernel
theorem dX9_pairedIn_62 : decode cX9_pairedIn 62 = .ok (.goto 17, 3) := by decide +kernel
theorem dX9_pairedIn_65 : decode cX9_pairedIn 65 = .ok (.iload 7, 2) := by decide +kernel
theorem dX9_pairedIn_67 : decode cX9_pairedIn 67 = .ok (.iconst 4, 1) := by decide +kernel
theorem dX9_pairedIn_68 : decode cX9_pairedIn 68 = .ok (.if_icmp .ne 10, 3) := by decide +kernel
theorem dX9_pairedIn_71 : decode cX9_pairedIn 71 = .ok (.iload 4, 2) := by decide +kernel
theorem dX9_pairedIn_73 : decode cX9_pairedIn 73 = .ok (.iconst 3, 1) := by decide +kernel
theorem dX9_pairedIn_74 : decode cX9_pairedIn 74 = .ok (.irem, 1) := by decide +kernel
theorem dX9_pairedIn_75 : decode cX9_pairedIn 75 = .ok (.goto 4, 3) := by decide +kernel
theorem dX9_pairedIn_78 : decode cX9_pairedIn 78 = .ok (.iconst 0, 1) := by decide +kernel
theorem dX9_pairedIn_79 : decode cX9_pairedIn 79 = .ok (.istore 9, 2) := by decide +kernel
theorem dX9_pairedIn_81 : decode cX9_pairedIn 81 = .ok (.iload_n 3, 1) := by decide +kernel
theorem dX9_pairedIn_82 : decode cX9_pairedIn 82 = .ok (.iload 9, 2) := by decide +kernel
theorem dX9_pairedIn_84 : decode cX9_pairedIn 84 = .ok (.invokestatic 182, 3) := by decide +kernel
theorem dX9_pairedIn_87 : decode cX9_pairedIn 87 = .ok (.istore 10, 2) := by decide +kernel
theorem dX9_pairedIn_89 : decode cX9_pairedIn 89 = .ok (.iload_n 3, 1) := by decide +kernel
theorem dX9_pairedIn_90 : decode cX9_pairedIn 90 = .ok (.iconst 1, 1) := by decide +kernel
theorem dX9_pairedIn_91 : decode cX9_pairedIn 91 = .ok (.iload 10, 2) := by decide +kernel
theorem dX9_pairedIn_93 : decode cX9_pairedIn 93 = .ok (.ishl, 1) := by decide +kernel
theorem dX9_pairedIn_94 : decode cX9_pairedIn 94 = .ok (.ior, 1) := by decide +kernel
theorem dX9_pairedIn_95 : decode cX9_pairedIn 95 = .ok (.istore_n 3, 1) := by decide +kernel
theorem dX9_pairedIn_96 : decode cX9_pairedIn 96 = .ok (.aload_n 0, 1) := by decide +kernel
theorem dX9_pairedIn_97 : decode cX9_pairedIn 97 = .ok (.getfield 31, 3) := by decide +kernel
theorem dX9_pairedIn_100 : decode cX9_pairedIn 100 = .ok (.bipush 6, 2) := by decide +kernel
theorem dX9_pairedIn_102 : decode cX9_pairedIn 102 = .ok (.aload_n 0, 1) := by decide +kernel
theorem dX9_pairedIn_103 : decode cX9_pairedIn 103 = .ok (.getfield 91, 3) := by decide +kernel
theorem dX9_pairedIn_106 : decode cX9_pairedIn 106 = .ok (.iload 8, 2) := by decide +kernel
theorem dX9_pairedIn_108 : decode cX9_pairedIn 108 = .ok (.iaload, 1) := by decide +kernel
theorem dX9_pairedIn_109 : decode cX9_pairedIn 109 = .ok (.imul, 1) := by decide +kernel
theorem dX9_pairedIn_110 : decode cX9_pairedIn 110 = .ok (.aload_n 0, 1) := by decide +kernel
theorem dX9_pairedIn_111 : decode cX9_pairedIn 111 = .ok (.getfield 91, 3) := by decide +kernel
theorem dX9_pairedIn_114 : decode cX9_pairedIn 114 = .ok (.iload 10, 2) := by decide +kernel
theorem dX9_pairedIn_116 : decode cX9_pairedIn 116 = .ok (.iaload, 1) := by decide +kernel
theorem dX9_pairedIn_117 : decode cX9_pairedIn 117 = .ok (.iadd, 1) := by decide +kernel
theorem dX9_pairedIn_118 : decode cX9_pairedIn 118 = .ok (.baload, 1) := by decide +kernel
theorem dX9_pairedIn_119 : decode cX9_pairedIn 119 = .ok (.ifCond .eq 5, 3) := by decide +kernel
theorem dX9_pairedIn_122 : decode cX9_pairedIn 122 = .ok (.iconst (-1), 1) := by decide +kernel
theorem dX9_pairedIn_123 : decode cX9_pairedIn 123 = .ok (.ireturn, 1) := by decide +kernel
theorem dX9_pairedIn_124 : decode cX9_pairedIn 124 = .ok (.aload_n 0, 1) := by decide +kernel
theorem dX9_pairedIn_125 : decode cX9_pairedIn 125 = .ok (.getfield 91, 3) := by decide +kernel
theorem dX9_pairedIn_128 : decode cX9_pairedIn 128 = .ok (.iload 8, 2) := by decide +kernel
theorem dX9_pairedIn_130 : decode cX9_pairedIn 130 = .ok (.iaload, 1) := by decide +kernel
theorem dX9_pairedIn_131 : decode cX9_pairedIn 131 = .ok (.iload_n 1, 1) := by decide +kernel
theorem dX9_pairedIn_132 : decode cX9_pairedIn 132 = .ok (.if_icmp .ne 13, 3) := by decide +kernel
theorem dX9_pairedIn_135 : decode cX9_pairedIn 135 = .ok (.aload_n 0, 1) := by decide +kernel
theorem dX9_pairedIn_136 : decode cX9_pairedIn 136 = .ok (.getfield 91, 3) := by decide +kernel
theorem dX9_pairedIn_139 : decode cX9_pairedIn 139 = .ok (.iload 10, 2) := by decide +kernel
theorem dX9_pairedIn_141 : decode cX9_pairedIn 141 = .ok (.iaload, 1) := by decide +kernel
theorem dX9_pairedIn_142 : decode cX9_pairedIn 142 = .ok (.goto 26, 3) := by decide +kernel
theorem dX9_pairedIn_145 : decode cX9_pairedIn 145 = .ok (.aload_n 0, 1) := by decide +kernel
theorem dX9_pairedIn_146 : decode cX9_pairedIn 146 = .ok (.getfield 91, 3) := by decide +kernel
theorem dX9_pairedIn_149 : decode cX9_pairedIn 149 = .ok (.iload 10, 2) := by decide +kernel
theorem dX9_pairedIn_151 : decode cX9_pairedIn 151 = .ok (.iaload, 1) := by decide +kernel
theorem dX9_pairedIn_152 : decode cX9_pairedIn 152 = .ok (.iload_n 1, 1) := by decide +kernel
theorem dX9_pairedIn_153 : decode cX9_pairedIn 153 = .ok (.if_icmp .ne 13, 3) := by decide +kernel
theorem dX9_pairedIn_156 : decode cX9_pairedIn 156 = .ok (.aload_n 0, 1) := by decide +kernel
theorem dX9_pairedIn_157 : decode cX9_pairedIn 157 = .ok (.getfield 91, 3) := by decide +kernel
theorem dX9_pairedIn_160 : decode cX9_pairedIn 160 = .ok (.iload 8, 2) := by decide +kernel
theorem dX9_pairedIn_162 : decode cX9_pairedIn 162 = .ok (.iaload, 1) := by decide +kernel
theorem dX9_pairedIn_163 : decode cX9_pairedIn 163 = .ok (.goto 5, 3) := by decide +kernel
theorem dX9_pairedIn_166 : decode cX9_pairedIn 166 = .ok (.iload 5, 2) := by decide +kernel
theorem dX9_pairedIn_168 : decode cX9_pairedIn 168 = .ok (.istore 5, 2) := by decide +kernel
theorem dX9_pairedIn_170 : decode cX9_pairedIn 170 = .ok (.iinc 7 (-2), 3) := by decide +kernel
theorem dX9_pairedIn_173 : decode cX9_pairedIn 173 = .ok (.goto (-142), 3) := by decide +kernel
theorem dX9_pairedIn_176 : decode cX9_pairedIn 176 = .ok (.iload 5, 2) := by decide +kernel
theorem dX9_pairedIn_178 : decode cX9_pairedIn 178 = .ok (.ireturn, 1) := by decide +kernel
set_option maxRecDepth 20000 in
theorem ggX9_pair_X9_isPlayer : GoodIn wsX9_pair wsX9_isPlayer := goodIn_r _ [5, 6, 7, 4, 8] (by decide +kernel) (by decide +kernel)
set_option maxRecDepth 20000 in
theorem gX9_pair_X9_isPlayer : GoodIn wsX9_pair (va_wsS RX9 118 yX9_isPlayer wsX9_isPlayer) := goodIn_app (goodIn_of _ (by decide +kernel)) ggX9_pair_X9_isPlayer
set_option maxRecDepth 20000 in
theorem ggX9_pair_X9_goesWell : GoodIn wsX9_pair wsX9_goesWell := goodIn_r _ [12, 13, 28, 29, 30, 31, 32, 33, 34, 35, 36, 37, 38, 39, 40, 41, 42, 43, 44, 45, 46, 47, 48, 49, 50, 51, 52, 53, 54, 55, 56, 57, 58, 59, 60, 61, 62, 63, 64] (by decide +kernel) (by decide +kernel)
set_option maxRecDepth 20000 in
theorem gX9_pair_X9_goesWell : GoodIn wsX9_pair (wsV RX9 104 RX9 yX9_goesWell wsX9_goesWell) := goodIn_app (goodIn_of _ (by decide +kernel)) ggX9_pair_X9_goesWell
set_option maxRecDepth 20000 in
theorem ggX9_pair_X9_rowOf : GoodIn wsX9_pair wsX9_rowOf := goodIn_r _ [17, 1, 18, 19, 28, 29, 30, 31, 32, 33, 34, 35, 36, 37, 38, 39, 40, 41, 42, 43, 44, 45, 46, 47, 48, 49, 50, 51, 52, 53, 54, 55, 56, 57, 58, 59, 60, 61, 62, 63, 64] (by decide +kernel) (by decide +kernel)
set_option maxRecDepth 20000 in
theorem gX9_pair_X9_rowOf : GoodIn wsX9_pair (wsV RX9 185 RX9 yX9_rowOf wsX9_rowOf) := goodIn_app (goodIn_of _ (by decide +kernel)) ggX9_pair_X9_rowOf
set_option maxRecDepth 20000 in
theorem ggX9_pair_X9_pairedIn : GoodIn wsX9_pair wsX9_pairedIn := goodIn_r _ [23, 1, 24, 19, 25, 26, 4, 27, 28, 29, 30, 31, 32, 33, 34, 35, 36, 37, 38, 39, 40, 41, 42, 43, 44, 45, 46, 47, 48, 49, 50, 51, 52, 53, 54, 55, 56, 57, 58, 59, 60, 61, 62, 63, 64] (by decide +kernel) (by decide +kernel)
set_option maxRecDepth 20000 in
theorem gX9_pair_X9_pairedIn : GoodIn wsX9_pair (wsV RX9 188 RX9 yX9_pairedIn wsX9_pairedIn) := goodIn_app (goodIn_of _ (by decide +kernel)) ggX9_pair_X9_pairedIn
theorem dX9_pair_0 : decode cX9_pair 0 = .ok (.iload_n 1, 1) := by decide +kernel
theorem dX9_pair_1 : decode cX9_pair 1 = .ok (.invokestatic 118, 3) := by decide +kernel
theorem dX9_pair_4 : decode cX9_pair 4 = .ok (.istore_n 3, 1) := by decide +kernel
theorem dX9_pair_5 : decode cX9_pair 5 = .ok (.aload_n 0, 1) := by decide +kernel
theorem dX9_pair_6 : decode cX9_pair 6 = .ok (.iload_n 3, 1) := by decide +kernel
theorem dX9_pair_7 : decode cX9_pair 7 = .ok (.ifCond .ne 7, 3) := by decide +kernel
theorem dX9_pair_10 : decode cX9_pair 10 = .ok (.iconst 1, 1) := by decide +kernel
theorem dX9_pair_11 : decode cX9_pair 11 = .ok (.goto 18, 3) := by decide +kernel
theorem dX9_pair_14 : decode cX9_pair 14 = .ok (.iload_n 2, 1) := by decide +kernel
theorem dX9_pair_15 : decode cX9_pair 15 = .ok (.ifCond .lt 13, 3) := by decide +kernel
theorem dX9_pair_18 : decode cX9_pair 18 = .ok (.iload_n 2, 1) := by decide +kernel
theorem dX9_pair_19 : decode cX9_pair 19 = .ok (.bipush 63, 2) := by decide +kernel
theorem dX9_pair_21 : decode cX9_pair 21 = .ok (.if_icmp .gt 7, 3) := by decide +kernel
theorem dX9_pair_24 : decode cX9_pair 24 = .ok (.iconst 0, 1) := by decide +kernel
theorem dX9_pair_25 : decode cX9_pair 25 = .ok (.goto 4, 3) := by decide +kernel
theorem dX9_pair_28 : decode cX9_pair 28 = .ok (.iconst 2, 1) := by decide +kernel
theorem dX9_pair_29 : decode cX9_pair 29 = .ok (.invokevirtual 104, 3) := by decide +kernel
theorem dX9_pair_32 : decode cX9_pair 32 = .ok (.ifCond .ne 5, 3) := by decide +kernel
theorem dX9_pair_35 : decode cX9_pair 35 = .ok (.iconst 0, 1) := by decide +kernel
theorem dX9_pair_36 : decode cX9_pair 36 = .ok (.ireturn, 1) := by decide +kernel
theorem dX9_pair_37 : decode cX9_pair 37 = .ok (.aload_n 0, 1) := by decide +kernel
theorem dX9_pair_38 : decode cX9_pair 38 = .ok (.iload_n 2, 1) := by decide +kernel
theorem dX9_pair_39 : decode cX9_pair 39 = .ok (.invokevirtual 185, 3) := by decide +kernel
theorem dX9_pair_42 : decode cX9_pair 42 = .ok (.aload_n 0, 1) := by decide +kernel
theorem dX9_pair_43 : decode cX9_pair 43 = .ok (.getfield 179, 3) := by decide +kernel
theorem dX9_pair_46 : decode cX9_pair 46 = .ok (.bipush 6, 2) := by decide +kernel
theorem dX9_pair_48 : decode cX9_pair 48 = .ok (.if_icmp .ne 8, 3) := by decide +kernel
theorem dX9_pair_51 : decode cX9_pair 51 = .ok (.bipush 15, 2) := by decide +kernel
theorem dX9_pair_53 : decode cX9_pair 53 = .ok (.goto 16, 3) := by decide +kernel
theorem dX9_pair_56 : decode cX9_pair 56 = .ok (.aload_n 0, 1) := by decide +kernel
theorem dX9_pair_57 : decode cX9_pair 57 = .ok (.getfield 179, 3) := by decide +kernel
theorem dX9_pair_60 : decode cX9_pair 60 = .ok (.iconst 4, 1) := by decide +kernel
theorem dX9_pair_61 : decode cX9_pair 61 = .ok (.if_icmp .ne 7, 3) := by decide +kernel
theorem dX9_pair_64 : decode cX9_pair 64 = .ok (.iconst 3, 1) := by decide +kernel
theorem dX9_pair_65 : decode cX9_pair 65 = .ok (.goto 4, 3) := by decide +kernel
theorem dX9_pair_68 : decode cX9_pair 68 = .ok (.iconst 1, 1) := by decide +kernel
theorem dX9_pair_69 : decode cX9_pair 69 = .ok (.istore 4, 2) := by decide +kernel
theorem dX9_pair_71 : decode cX9_pair 71 = .ok (.iconst 0, 1) := by decide +kernel
theorem dX9_pair_72 : decode cX9_pair 72 = .ok (.istore 5, 2) := by decide +kernel
theorem dX9_pair_74 : decode cX9_pair 74 = .ok (.iload 5, 2) := by decide +kernel
theorem dX9_pair_76 : decode cX9_pair 76 = .ok (.iload 4, 2) := by decide +kernel
theorem dX9_pair_78 : decode cX9_pair 78 = .ok (.if_icmp .ge 38, 3) := by decide +kernel
theorem dX9_pair_81 : decode cX9_pair 81 = .ok (.aload_n 0, 1) := by decide +kernel
theorem dX9_pair_82 : decode cX9_pair 82 = .ok (.iload_n 1, 1) := by decide +kernel
theorem dX9_pair_83 : decode cX9_pair 83 = .ok (.iload 5, 2) := by decide +kernel
theorem dX9_pair_85 : decode cX9_pair 85 = .ok (.invokevirtual 188, 3) := by decide +kernel
theorem dX9_pair_88 : decode cX9_pair 88 = .ok (.istore 6, 2) := by decide +kernel
theorem dX9_pair_90 : decode cX9_pair 90 = .ok (.iload 6, 2) := by decide +kernel
theorem dX9_pair_92 : decode cX9_pair 92 = .ok (.iconst (-1), 1) := by decide +kernel
theorem dX9_pair_93 : decode cX9_pair 93 = .ok (.if_icmp .eq 17, 3) := by decide +kernel
theorem dX9_pair_96 : decode cX9_pair 96 = .ok (.iload 6, 2) := by decide +kernel
theorem dX9_pair_98 : decode cX9_pair 98 = .ok (.bipush (-2), 2) := by decide +kernel
theorem dX9_pair_100 : decode cX9_pair 100 = .ok (.if_icmp .ne 7, 3) := by decide +kernel
theorem dX9_pair_103 : decode cX9_pair 103 = .ok (.iconst (-1), 1) := by decide +kernel
theorem dX9_pair_104 : decode cX9_pair 104 = .ok (.goto 5, 3) := by decide +kernel
theorem dX9_pair_107 : decode cX9_pair 107 = .ok (.iload 6, 2) := by decide +kernel
theorem dX9_pair_109 : decode cX9_pair 109 = .ok (.ireturn, 1) := by decide +kernel
theorem dX9_pair_110 : decode cX9_pair 110 = .ok (.iinc 5 1, 3) := by decide +kernel
theorem dX9_pair_113 : decode cX9_pair 113 = .ok (.goto (-39), 3) := by decide +kernel
theorem dX9_pair_116 : decode cX9_pair 116 = .ok (.iconst (-1), 1) := by decide +kernel
theorem dX9_pair_117 : decode cX9_pair 117 = .ok (.ireturn, 1) := by decide +kernel
set_option maxRecDepth 20000 in
theorem ggX9_result_X9_isPlayer : GoodIn wsX9_result wsX9_isPlayer := goodIn_r _ [6, 7, 8, 5, 9] (by decide +kernel) (by decide +kernel)
set_option maxRecDepth 20000 in
theorem gX9_result_X9_isPlayer : GoodIn wsX9_result (va_wsS RX9 118 yX9_isPlayer wsX9_isPlayer) := goodIn_app (goodIn_of _ (by decide +kernel)) ggX9_result_X9_isPlayer
set_option maxRecDepth 20000 in
theorem ggX9_result_X9_goesWell : GoodIn wsX9_result wsX9_goesWell := goodIn_r _ [13, 14, 15, 16, 17, 18, 19, 20, 21, 22, 23, 24, 25, 26, 27, 28, 29, 30, 31, 32, 33, 34, 35, 36, 37, 38, 39, 40, 41, 42, 43, 44, 45, 46, 47, 48, 49, 50, 51] (by decide +kernel) (by decide +kernel)
set_option maxRecDepth 20000 in
theorem gX9_result_X9_goesWell : GoodIn wsX9_result (wsV RX9 104 RX9 yX9_goesWell wsX9_goesWell) := goodIn_app (goodIn_of _ (by decide +kernel)) ggX9_result_X9_goesWell
theorem dX9_result_0 : decode cX9_result 0 = .ok (.iload_n 1, 1) := by decide +kernel
theorem dX9_result_1 : decode cX9_result 1 = .ok (.invokestatic 118, 3) := by decide +kernel
theorem dX9_result_4 : decode cX9_result 4 = .ok (.ifCond .eq 14, 3) := by decide +kernel
theorem dX9_result_7 : decode cX9_result 7 = .ok (.iload_n 2, 1) := by decide +kernel
theorem dX9_result_8 : decode cX9_result 8 = .ok (.invokestatic 118, 3) := by decide +kernel
theorem dX9_result_11 : decode cX9_result 11 = .ok (.ifCond .eq 7, 3) := by decide +kernel
theorem dX9_result_14 : decode cX9_result 14 = .ok (.iconst 1, 1) := by decide +kernel
theorem dX9_result_15 : decode cX9_result 15 = .ok (.goto 4, 3) := by decide +kernel
theorem dX9_result_18 : decode cX9_result 18 = .ok (.iconst 0, 1) := by decide +kernel
theorem dX9_result_19 : decode cX9_result 19 = .ok (.istore_n 3, 1) := by decide +kernel
theorem dX9_result_20 : decode cX9_result 20 = .ok (.aload_n 0, 1) := by decide +kernel
theorem dX9_result_21 : decode cX9_result 21 = .ok (.iload_n 3, 1) := by decide +kernel
theorem dX9_result_22 : decode cX9_result 22 = .ok (.ifCond .ne 7, 3) := by decide +kernel
theorem dX9_result_25 : decode cX9_result 25 = .ok (.iconst 1, 1) := by decide +kernel
theorem dX9_result_26 : decode cX9_result 26 = .ok (.goto 13, 3) := by decide +kernel
theorem dX9_result_29 : decode cX9_result 29 = .ok (.iload_n 1, 1) := by decide +kernel
theorem dX9_result_30 : decode cX9_result 30 = .ok (.iload_n 2, 1) := by decide +kernel
theorem dX9_result_31 : decode cX9_result 31 = .ok (.if_icmp .ne 7, 3) := by decide +kernel
theorem dX9_result_34 : decode cX9_result 34 = .ok (.iconst 2, 1) := by decide +kernel
theorem dX9_result_35 : decode cX9_result 35 = .ok (.goto 4, 3) := by decide +kernel
theorem dX9_result_38 : decode cX9_result 38 = .ok (.iconst 0, 1) := by decide +kernel
theorem dX9_result_39 : decode cX9_result 39 = .ok (.invokevirtual 104, 3) := by decide +kernel
theorem dX9_result_42 : decode cX9_result 42 = .ok (.ifCond .ne 5, 3) := by decide +kernel
theorem dX9_result_45 : decode cX9_result 45 = .ok (.iconst 0, 1) := by decide +kernel
theorem dX9_result_46 : decode cX9_result 46 = .ok (.ireturn, 1) := by decide +kernel
theorem dX9_result_47 : decode cX9_result 47 = .ok (.bipush 16, 2) := by decide +kernel
theorem dX9_result_49 : decode cX9_result 49 = .ok (.aload_n 0, 1) := by decide +kernel
theorem dX9_result_50 : decode cX9_result 50 = .ok (.getfield 28, 3) := by decide +kernel
theorem dX9_result_53 : decode cX9_result 53 = .ok (.iload_n 2, 1) := by decide +kernel
theorem dX9_result_54 : decode cX9_result 54 = .ok (.iaload, 1) := by decide +kernel
theorem dX9_result_55 : decode cX9_result 55 = .ok (.aload_n 0, 1) := by decide +kernel
theorem dX9_result_56 : decode cX9_result 56 = .ok (.getfield 28, 3) := by decide +kernel
theorem dX9_result_59 : decode cX9_result 59 = .ok (.iload_n 1, 1) := by decide +kernel
theorem dX9_result_60 : decode cX9_result 60 = .ok (.iaload, 1) := by decide +kernel
theorem dX9_result_61 : decode cX9_result 61 = .ok (.isub, 1) := by decide +kernel
theorem dX9_result_62 : decode cX9_result 62 = .ok (.iconst 4, 1) := by decide +kernel
theorem dX9_result_63 : decode cX9_result 63 = .ok (.idiv, 1) := by decide +kernel
theorem dX9_result_64 : decode cX9_result 64 = .ok (.iadd, 1) := by decide +kernel
theorem dX9_result_65 : decode cX9_result 65 = .ok (.istore 4, 2) := by decide +kernel
theorem dX9_result_67 : decode cX9_result 67 = .ok (.iload 4, 2) := by decide +kernel
theorem dX9_result_69 : decode cX9_result 69 = .ok (.iconst 1, 1) := by decide +kernel
theorem dX9_result_70 : decode cX9_result 70 = .ok (.if_icmp .ge 7, 3) := by decide +kernel
theorem dX9_result_73 : decode cX9_result 73 = .ok (.iconst 1, 1) := by decide +kernel
theorem dX9_result_74 : decode cX9_result 74 = .ok (.goto 17, 3) := by decide +kernel
theorem dX9_result_77 : decode cX9_result 77 = .ok (.iload 4, 2) := by decide +kernel
theorem dX9_result_79 : decode cX9_result 79 = .ok (.bipush 32, 2) := by decide +kernel
theorem dX9_result_81 : decode cX9_result 81 = .ok (.if_icmp .le 8, 3) := by decide +kernel
theorem dX9_result_84 : decode cX9_result 84 = .ok (.bipush 32, 2) := by decide +kernel
theorem dX9_result_86 : decode cX9_result 86 = .ok (.goto 5, 3) := by decide +kernel
theorem dX9_result_89 : decode cX9_result 89 = .ok (.iload 4, 2) := by decide +kernel
theorem dX9_result_91 : decode cX9_result 91 = .ok (.istore 4, 2) := by decide +kernel
theorem dX9_result_93 : decode cX9_result 93 = .ok (.aload_n 0, 1) := by decide +kernel
theorem dX9_result_94 : decode cX9_result 94 = .ok (.getfield 28, 3) := by decide +kernel
theorem dX9_result_97 : decode cX9_result 97 = .ok (.iload_n 1, 1) := by decide +kernel
theorem dX9_result_98 : decode cX9_result 98 = .ok (.dup2, 1) := by decide +kernel
theorem dX9_result_99 : decode cX9_result 99 = .ok (.iaload, 1) := by decide +kernel
theorem dX9_result_100 : decode cX9_result 100 = .ok (.iload 4, 2) := by decide +kernel
theorem dX9_result_102 : decode cX9_result 102 = .ok (.iadd, 1) := by decide +kernel
theorem dX9_result_103 : decode cX9_result 103 = .ok (.iastore, 1) := by decide +kernel
theorem dX9_result_104 : decode cX9_result 104 = .ok (.aload_n 0, 1) := by decide +kernel
theorem dX9_result_105 : decode cX9_result 105 = .ok (.getfield 28, 3) := by decide +kernel
theorem dX9_result_108 : decode cX9_result 108 = .ok (.iload_n 2, 1) := by decide +kernel
theorem dX9_result_109 : decode cX9_result 109 = .ok (.dup2, 1) := by decide +kernel
theorem dX9_result_110 : decode cX9_result 110 = .ok (.iaload, 1) := by decide +kernel
theorem dX9_result_111 : decode cX9_result 111 = .ok (.iload 4, 2) := by decide +kernel
theorem dX9_result_113 : decode cX9_result 113 = .ok (.isub, 1) := by decide +kernel
theorem dX9_result_114 : decode cX9_result 114 = .ok (.iastore, 1) := by decide +kernel
theorem dX9_result_115 : decode cX9_result 115 = .ok (.aload_n 0, 1) := by decide +kernel
theorem dX9_result_116 : decode cX9_result 116 = .ok (.getfield 31, 3) := by decide +kernel
theorem dX9_result_119 : decode cX9_result 119 = .ok (.bipush 6, 2) := by decide +kernel
theorem dX9_result_121 : decode cX9_result 121 = .ok (.iload_n 1, 1) := by decide +kernel
theorem dX9_result_122 : decode cX9_result 122 = .ok (.imul, 1) := by decide +kernel
theorem dX9_result_123 : decode cX9_result 123 = .ok (.iload_n 2, 1) := by decide +kernel
theorem dX9_result_124 : decode cX9_result 124 = .ok (.iadd, 1) := by decide +kernel
theorem dX9_result_125 : decode cX9_result 125 = .ok (.iconst 1, 1) := by decide +kernel
theorem dX9_result_126 : decode cX9_result 126 = .ok (.bastore, 1) := by decide +kernel
theorem dX9_result_127 : decode cX9_result 127 = .ok (.aload_n 0, 1) := by decide +kernel
theorem dX9_result_128 : decode cX9_result 128 = .ok (.getfield 31, 3) := by decide +kernel
theorem dX9_result_131 : decode cX9_result 131 = .ok (.bipush 6, 2) := by decide +kernel
theorem dX9_result_133 : decode cX9_result 133 = .ok (.iload_n 2, 1) := by decide +kernel
theorem dX9_result_134 : decode cX9_result 134 = .ok (.imul, 1) := by decide +kernel
theorem dX9_result_135 : decode cX9_result 135 = .ok (.iload_n 1, 1) := by decide +kernel
theorem dX9_result_136 : decode cX9_result 136 = .ok (.iadd, 1) := by decide +kernel
theorem dX9_result_137 : decode cX9_result 137 = .ok (.iconst 1, 1) := by decide +kernel
theorem dX9_result_138 : decode cX9_result 138 = .ok (.bastore, 1) := by decide +kernel
theorem dX9_result_139 : decode cX9_result 139 = .ok (.iload 4, 2) := by decide +kernel
theorem dX9_result_141 : decode cX9_result 141 = .ok (.ireturn, 1) := by decide +kernel
set_option maxRecDepth 20000 in
theorem ggX9_has_X9_isPlayer : GoodIn wsX9_has wsX9_isPlayer := goodIn_r _ [5, 6, 7, 4, 8] (by decide +kernel) (by decide +kernel)
set_option maxRecDepth 20000 in
theorem gX9_has_X9_isPlayer : GoodIn wsX9_has (va_wsS RX9 118 yX9_isPlayer wsX9_isPlayer) := goodIn_app (goodIn_of _ (by decide +kernel)) ggX9_has_X9_isPlayer
set_option maxRecDepth 20000 in
theorem ggX9_has_X9_isKind : GoodIn wsX9_has wsX9_isKind := goodIn_r _ [12, 13, 6, 7, 4, 8, 19, 20, 21, 22, 23, 24, 25, 26, 27, 28, 29, 30, 31, 32, 33, 34, 35, 36, 37, 38, 39, 40, 41, 42, 43, 44, 45, 46, 47, 48, 49, 50, 51, 52, 53, 54, 55] (by decide +kernel) (by decide +kernel)
set_option maxRecDepth 20000 in
theorem gX9_has_X9_isKind : GoodIn wsX9_has (wsV RX9 108 RX9 yX9_isKind wsX9_isKind) := goodIn_app (goodIn_of _ (by decide +kernel)) ggX9_has_X9_isKind
set_option maxRecDepth 20000 in
theorem ggX9_has_X9_goesWell : GoodIn wsX9_has wsX9_goesWell := goodIn_r _ [17, 18, 19, 20, 21, 22, 23, 24, 25, 26, 27, 28, 29, 30, 31, 32, 33, 34, 35, 36, 37, 38, 39, 40, 41, 42, 43, 44, 45, 46, 47, 48, 49, 50, 51, 52, 53, 54, 55] (by decide +kernel) (by decide +kernel)
set_option maxRecDepth 20000 in
theorem gX9_has_X9_goesWell : GoodIn wsX9_has (wsV RX9 104 RX9 yX9_goesWell wsX9_goesWell) := goodIn_app (goodIn_of _ (by decide +kernel)) ggX9_has_X9_goesWell
theorem dX9_has_0 : decode cX9_has 0 = .ok (.aload_n 0, 1) := by decide +kernel
theorem dX9_has_1 : decode cX9_has 1 = .ok (.iload_n 1, 1) := by decide +kernel
theorem dX9_has_2 : decode cX9_has 2 = .ok (.invokestatic 118, 3) := by decide +kernel
theorem dX9_has_5 : decode cX9_has 5 = .ok (.ifCond .eq 15, 3) := by decide +kernel
theorem dX9_has_8 : decode cX9_has 8 = .ok (.aload_n 0, 1) := by decide +kernel
theorem dX9_has_9 : decode cX9_has 9 = .ok (.iload_n 2, 1) := by decide +kernel
theorem dX9_has_10 : decode cX9_has 10 = .ok (.invokevirtual 108, 3) := by decide +kernel
theorem dX9_has_13 : decode cX9_has 13 = .ok (.ifCond .eq 7, 3) := by decide +kernel
theorem dX9_has_16 : decode cX9_has 16 = .ok (.iconst 0, 1) := by decide +kernel
theorem dX9_has_17 : decode cX9_has 17 = .ok (.goto 4, 3) := by decide +kernel
theorem dX9_has_20 : decode cX9_has 20 = .ok (.iconst 1, 1) := by decide +kernel
theorem dX9_has_21 : decode cX9_has 21 = .ok (.invokevirtual 104, 3) := by decide +kernel
theorem dX9_has_24 : decode cX9_has 24 = .ok (.ifCond .eq 17, 3) := by decide +kernel
theorem dX9_has_27 : decode cX9_has 27 = .ok (.aload_n 0, 1) := by decide +kernel
theorem dX9_has_28 : decode cX9_has 28 = .ok (.getfield 19, 3) := by decide +kernel
theorem dX9_has_31 : decode cX9_has 31 = .ok (.bipush 20, 2) := by decide +kernel
theorem dX9_has_33 : decode cX9_has 33 = .ok (.iload_n 1, 1) := by decide +kernel
theorem dX9_has_34 : decode cX9_has 34 = .ok (.imul, 1) := by decide +kernel
theorem dX9_has_35 : decode cX9_has 35 = .ok (.iload_n 2, 1) := by decide +kernel
theorem dX9_has_36 : decode cX9_has 36 = .ok (.iadd, 1) := by decide +kernel
theorem dX9_has_37 : decode cX9_has 37 = .ok (.iaload, 1) := by decide +kernel
theorem dX9_has_38 : decode cX9_has 38 = .ok (.goto 4, 3) := by decide +kernel
theorem dX9_has_41 : decode cX9_has 41 = .ok (.iconst 0, 1) := by decide +kernel
theorem dX9_has_42 : decode cX9_has 42 = .ok (.ireturn, 1) := by decide +kernel
set_option maxRecDepth 20000 in
theorem ggX9_strength_X9_isPlayer : GoodIn wsX9_strength wsX9_isPlayer := goodIn_r _ [5, 6, 7, 4, 8] (by decide +kernel) (by decide +kernel)
set_option maxRecDepth 20000 in
theorem gX9_strength_X9_isPlayer : GoodIn wsX9_strength (va_wsS RX9 118 yX9_isPlayer wsX9_isPlayer) := goodIn_app (goodIn_of _ (by decide +kernel)) ggX9_strength_X9_isPlayer
set_option maxRecDepth 20000 in
theorem ggX9_strength_X9_goesWell : GoodIn wsX9_strength wsX9_goesWell := goodIn_r _ [12, 13, 14, 15, 16, 17, 18, 19, 20, 21, 22, 23, 24, 25, 26, 27, 28, 29, 30, 31, 32, 33, 34, 35, 36, 37, 38, 39, 40, 41, 42, 43, 44, 45, 46, 47, 48, 49, 50] (by decide +kernel) (by decide +kernel)
set_option maxRecDepth 20000 in
theorem gX9_strength_X9_goesWell : GoodIn wsX9_strength (wsV RX9 104 RX9 yX9_goesWell wsX9_goesWell) := goodIn_app (goodIn_of _ (by decide +kernel)) ggX9_strength_X9_goesWell
theorem dX9_strength_0 : decode cX9_strength 0 = .ok (.aload_n 0, 1) := by decide +kernel
theorem dX9_strength_1 : decode cX9_strength 1 = .ok (.iload_n 1, 1) := by decide +kernel
theorem dX9_strength_2 : decode cX9_strength 2 = .ok (.invokestatic 118, 3) := by decide +kernel
theorem dX9_strength_5 : decode cX9_strength 5 = .ok (.ifCond .eq 7, 3) := by decide +kernel
theorem dX9_strength_8 : decode cX9_strength 8 = .ok (.iconst 0, 1) := by decide +kernel
theorem dX9_strength_9 : decode cX9_strength 9 = .ok (.goto 4, 3) := by decide +kernel
theorem dX9_strength_12 : decode cX9_strength 12 = .ok (.iconst 1, 1) := by decide +kernel
theorem dX9_strength_13 : decode cX9_strength 13 = .ok (.invokevirtual 104, 3) := by decide +kernel
theorem dX9_strength_16 : decode cX9_strength 16 = .ok (.ifCond .eq 12, 3) := by decide +kernel
theorem dX9_strength_19 : decode cX9_strength 19 = .ok (.aload_n 0, 1) := by decide +kernel
theorem dX9_strength_20 : decode cX9_strength 20 = .ok (.getfield 28, 3) := by decide +kernel
theorem dX9_strength_23 : decode cX9_strength 23 = .ok (.iload_n 1, 1) := by decide +kernel
theorem dX9_strength_24 : decode cX9_strength 24 = .ok (.iaload, 1) := by decide +kernel
theorem dX9_strength_25 : decode cX9_strength 25 = .ok (.goto 4, 3) := by decide +kernel
theorem dX9_strength_28 : decode cX9_strength 28 = .ok (.iconst 0, 1) := by decide +kernel
theorem dX9_strength_29 : decode cX9_strength 29 = .ok (.ireturn, 1) := by decide +kernel
theorem dX9_stacked_0 : decode cX9_stacked 0 = .ok (.aload_n 0, 1) := by decide +kernel
theorem dX9_stacked_1 : decode cX9_stacked 1 = .ok (.iconst 0, 1) := by decide +kernel
theorem dX9_stacked_2 : decode cX9_stacked 2 = .ok (.putfield 94, 3) := by decide +kernel
theorem dX9_stacked_5 : decode cX9_stacked 5 = .ok (.aload_n 0, 1) := by decide +kernel
theorem dX9_stacked_6 : decode cX9_stacked 6 = .ok (.getfield 125, 3) := by decide +kernel
theorem dX9_stacked_9 : decode cX9_stacked 9 = .ok (.ireturn, 1) := by decide +kernel
theorem dJ9_floorMod_7cf53_0 : decode cJ9_floorMod_7cf53 0 = .ok (.iload_n 0, 1) := by decide +kernel
theorem dJ9_floorMod_7cf53_1 : decode cJ9_floorMod_7cf53 1 = .ok (.iload_n 1, 1) := by decide +kernel
theorem dJ9_floorMod_7cf53_2 : decode cJ9_floorMod_7cf53 2 = .ok (.irem, 1) := by decide +kernel
theorem dJ9_floorMod_7cf53_3 : decode cJ9_floorMod_7cf53 3 = .ok (.istore_n 2, 1) := by decide +kernel
theorem dJ9_floorMod_7cf53_4 : decode cJ9_floorMod_7cf53 4 = .ok (.iload_n 0, 1) := by decide +kernel
theorem dJ9_floorMod_7cf53_5 : decode cJ9_floorMod_7cf53 5 = .ok (.iload_n 1, 1) := by decide +kernel
theorem dJ9_floorMod_7cf53_6 : decode cJ9_floorMod_7cf53 6 = .ok (.ixor, 1) := by decide +kernel
theorem dJ9_floorMod_7cf53_7 : decode cJ9_floorMod_7cf53 7 = .ok (.ifCond .ge 11, 3) := by decide +kernel
theorem dJ9_floorMod_7cf53_10 : decode cJ9_floorMod_7cf53 10 = .ok (.iload_n 2, 1) := by decide +kernel
theorem dJ9_floorMod_7cf53_11 : decode cJ9_floorMod_7cf53 11 = .ok (.ifCond .eq 7, 3) := by decide +kernel
theorem dJ9_floorMod_7cf53_14 : decode cJ9_floorMod_7cf53 14 = .ok (.iload_n 2, 1) := by decide +kernel
theorem dJ9_floorMod_7cf53_15 : decode cJ9_floorMod_7cf53 15 = .ok (.iload_n 1, 1) := by decide +kernel
theorem dJ9_floorMod_7cf53_16 : decode cJ9_floorMod_7cf53 16 = .ok (.iadd, 1) := by decide +kernel
theorem dJ9_floorMod_7cf53_17 : decode cJ9_floorMod_7cf53 17 = .ok (.ireturn, 1) := by decide +kernel
theorem dJ9_floorMod_7cf53_18 : decode cJ9_floorMod_7cf53 18 = .ok (.iload_n 2, 1) := by decide +kernel
theorem dJ9_floorMod_7cf53_19 : decode cJ9_floorMod_7cf53 19 = .ok (.ireturn, 1) := by decide +kernel
theorem dJ9_max_7cf53_0 : decode cJ9_max_7cf53 0 = .ok (.iload_n 0, 1) := by decide +kernel
theorem dJ9_max_7cf53_1 : decode cJ9_max_7cf53 1 = .ok (.iload_n 1, 1) := by decide +kernel
theorem dJ9_max_7cf53_2 : decode cJ9_max_7cf53 2 = .ok (.if_icmp .lt 7, 3) := by decide +kernel
theorem dJ9_max_7cf53_5 : decode cJ9_max_7cf53 5 = .ok (.iload_n 0, 1) := by decide +kernel
theorem dJ9_max_7cf53_6 : decode cJ9_max_7cf53 6 = .ok (.goto 4, 3) := by decide +kernel
theorem dJ9_max_7cf53_9 : decode cJ9_max_7cf53 9 = .ok (.iload_n 1, 1) := by decide +kernel
theorem dJ9_max_7cf53_10 : decode cJ9_max_7cf53 10 = .ok (.ireturn, 1) := by decide +kernel
theorem dJ9_min_7cf53_0 : decode cJ9_min_7cf53 0 = .ok (.iload_n 0, 1) := by decide +kernel
theorem dJ9_min_7cf53_1 : decode cJ9_min_7cf53 1 = .ok (.iload_n 1, 1) := by decide +kernel
theorem dJ9_min_7cf53_2 : decode cJ9_min_7cf53 2 = .ok (.if_icmp .gt 7, 3) := by decide +kernel
theorem dJ9_min_7cf53_5 : decode cJ9_min_7cf53 5 = .ok (.iload_n 0, 1) := by decide +kernel
theorem dJ9_min_7cf53_6 : decode cJ9_min_7cf53 6 = .ok (.goto 4, 3) := by decide +kernel
theorem dJ9_min_7cf53_9 : decode cJ9_min_7cf53 9 = .ok (.iload_n 1, 1) := by decide +kernel
theorem dJ9_min_7cf53_10 : decode cJ9_min_7cf53 10 = .ok (.ireturn, 1) := by decide +kernel
