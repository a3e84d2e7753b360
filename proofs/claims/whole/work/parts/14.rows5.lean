theorem dX9_top_79 : decode cX9_top 79 = .ok (.iload_n 1, 1) := by decide +kernel
theorem dX9_top_80 : decode cX9_top 80 = .ok (.aload_n 0, 1) := by decide +kernel
theorem dX9_top_81 : decode cX9_top 81 = .ok (.getfield 75, 3) := by decide +kernel
theorem dX9_top_84 : decode cX9_top 84 = .ok (.iload_n 1, 1) := by decide +kernel
theorem dX9_top_85 : decode cX9_top 85 = .ok (.laload, 1) := by decide +kernel
theorem dX9_top_86 : decode cX9_top 86 = .ok (.l2i, 1) := by decide +kernel
theorem dX9_top_87 : decode cX9_top 87 = .ok (.iastore, 1) := by decide +kernel
theorem dX9_top_88 : decode cX9_top 88 = .ok (.aload_n 0, 1) := by decide +kernel
theorem dX9_top_89 : decode cX9_top 89 = .ok (.getfield 50, 3) := by decide +kernel
theorem dX9_top_92 : decode cX9_top 92 = .ok (.iload_n 1, 1) := by decide +kernel
theorem dX9_top_93 : decode cX9_top 93 = .ok (.aload_n 0, 1) := by decide +kernel
theorem dX9_top_94 : decode cX9_top 94 = .ok (.getfield 79, 3) := by decide +kernel
theorem dX9_top_97 : decode cX9_top 97 = .ok (.iload_n 1, 1) := by decide +kernel
theorem dX9_top_98 : decode cX9_top 98 = .ok (.iaload, 1) := by decide +kernel
theorem dX9_top_99 : decode cX9_top 99 = .ok (.iastore, 1) := by decide +kernel
theorem dX9_top_100 : decode cX9_top 100 = .ok (.iinc 1 1, 3) := by decide +kernel
theorem dX9_top_103 : decode cX9_top 103 = .ok (.goto (-60), 3) := by decide +kernel
theorem dX9_top_106 : decode cX9_top 106 = .ok (.iconst 0, 1) := by decide +kernel
theorem dX9_top_107 : decode cX9_top 107 = .ok (.istore_n 1, 1) := by decide +kernel
theorem dX9_top_108 : decode cX9_top 108 = .ok (.iload_n 1, 1) := by decide +kernel
theorem dX9_top_109 : decode cX9_top 109 = .ok (.bipush 6, 2) := by decide +kernel
theorem dX9_top_111 : decode cX9_top 111 = .ok (.if_icmp .ge 35, 3) := by decide +kernel
theorem dX9_top_114 : decode cX9_top 114 = .ok (.aload_n 0, 1) := by decide +kernel
theorem dX9_top_115 : decode cX9_top 115 = .ok (.getfield 22, 3) := by decide +kernel
theorem dX9_top_118 : decode cX9_top 118 = .ok (.iload_n 1, 1) := by decide +kernel
theorem dX9_top_119 : decode cX9_top 119 = .ok (.aload_n 0, 1) := by decide +kernel
theorem dX9_top_120 : decode cX9_top 120 = .ok (.getfield 82, 3) := by decide +kernel
theorem dX9_top_123 : decode cX9_top 123 = .ok (.iload_n 1, 1) := by decide +kernel
theorem dX9_top_124 : decode cX9_top 124 = .ok (.laload, 1) := by decide +kernel
theorem dX9_top_125 : decode cX9_top 125 = .ok (.l2i, 1) := by decide +kernel
theorem dX9_top_126 : decode cX9_top 126 = .ok (.iastore, 1) := by decide +kernel
theorem dX9_top_127 : decode cX9_top 127 = .ok (.aload_n 0, 1) := by decide +kernel
theorem dX9_top_128 : decode cX9_top 128 = .ok (.getfield 25, 3) := by decide +kernel
theorem dX9_top_131 : decode cX9_top 131 = .ok (.iload_n 1, 1) := by decide +kernel
theorem dX9_top_132 : decode cX9_top 132 = .ok (.aload_n 0, 1) := by decide +kernel
theorem dX9_top_133 : decode cX9_top 133 = .ok (.getfield 85, 3) := by decide +kernel
theorem dX9_top_136 : decode cX9_top 136 = .ok (.iload_n 1, 1) := by decide +kernel
theorem dX9_top_137 : decode cX9_top 137 = .ok (.laload, 1) := by decide +kernel
theorem dX9_top_138 : decode cX9_top 138 = .ok (.l2i, 1) := by decide +kernel
theorem dX9_top_139 : decode cX9_top 139 = .ok (.iastore, 1) := by decide +kernel
theorem dX9_top_140 : decode cX9_top 140 = .ok (.iinc 1 1, 3) := by decide +kernel
theorem dX9_top_143 : decode cX9_top 143 = .ok (.goto (-35), 3) := by decide +kernel
theorem dX9_top_146 : decode cX9_top 146 = .ok (.aload_n 0, 1) := by decide +kernel
theorem dX9_top_147 : decode cX9_top 147 = .ok (.getfield 125, 3) := by decide +kernel
theorem dX9_top_150 : decode cX9_top 150 = .ok (.ireturn, 1) := by decide +kernel
set_option maxRecDepth 20000 in
theorem ggX9_bound_X9_isPlayer : GoodIn wsX9_bound wsX9_isPlayer := goodIn_r _ [7, 8, 9, 6, 10] (by decide +kernel) (by decide +kernel)
set_option maxRecDepth 20000 in
theorem gX9_bound_X9_isPlayer : GoodIn wsX9_bound (va_wsS RX9 118 yX9_isPlayer wsX9_isPlayer) := goodIn_app (goodIn_of _ (by decide +kernel)) ggX9_bound_X9_isPlayer
set_option maxRecDepth 20000 in
theorem ggX9_bound_X9_goesWell : GoodIn wsX9_bound wsX9_goesWell := goodIn_r _ [14, 15, 49, 50, 51, 52, 53, 54, 55, 56, 57, 58, 59, 60, 61, 62, 63, 64, 65, 66, 67, 68, 69, 70, 71, 72, 73, 74, 75, 76, 77, 78, 79, 80, 81, 82, 83, 84, 85] (by decide +kernel) (by decide +kernel)
set_option maxRecDepth 20000 in
theorem gX9_bound_X9_goesWell : GoodIn wsX9_bound (wsV RX9 104 RX9 yX9_goesWell wsX9_goesWell) := goodIn_app (goodIn_of _ (by decide +kernel)) ggX9_bound_X9_goesWell
set_option maxRecDepth 20000 in
theorem ggX9_bound_X9_lay : GoodIn wsX9_bound wsX9_lay := goodIn_r _ [19, 1, 20, 21, 22, 23, 24, 25, 26, 27, 2, 3, 28, 29, 30, 49, 50, 51, 52, 53, 54, 55, 56, 57, 58, 59, 60, 61, 62, 63, 64, 65, 66, 67, 68, 69, 70, 71, 72, 73, 74, 75, 76, 77, 78, 79, 80, 81, 82, 83, 84, 85] (by decide +kernel) (by decide +kernel)
set_option maxRecDepth 20000 in
theorem gX9_bound_X9_lay : GoodIn wsX9_bound (wsV RX9 148 RX9 yX9_lay wsX9_lay) := goodIn_app (goodIn_of _ (by decide +kernel)) ggX9_bound_X9_lay
set_option maxRecDepth 20000 in
theorem ggX9_bound_X9_tryTop : GoodIn wsX9_bound wsX9_tryTop := goodIn_r _ [34, 2, 26, 24, 22, 29, 3, 20, 35, 36, 37, 6, 38, 39, 40, 41, 42, 43, 44, 45, 46, 47, 48, 49, 50, 51, 52, 53, 54, 55, 56, 57, 58, 59, 60, 61, 62, 63, 64, 65, 66, 67, 68, 69, 70, 71, 72, 73, 74, 75, 76, 77, 78, 79, 80, 81, 82, 83, 84, 85] (by decide +kernel) (by decide +kernel)
set_option maxRecDepth 20000 in
theorem gX9_bound_X9_tryTop : GoodIn wsX9_bound (wsV RX9 151 RX9 yX9_tryTop wsX9_tryTop) := goodIn_app (goodIn_of _ (by decide +kernel)) ggX9_bound_X9_tryTop
theorem dX9_bound_0 : decode cX9_bound 0 = .ok (.aload_n 0, 1) := by decide +kernel
theorem dX9_bound_1 : decode cX9_bound 1 = .ok (.iload_n 1, 1) := by decide +kernel
theorem dX9_bound_2 : decode cX9_bound 2 = .ok (.invokestatic 118, 3) := by decide +kernel
theorem dX9_bound_5 : decode cX9_bound 5 = .ok (.ifCond .eq 7, 3) := by decide +kernel
theorem dX9_bound_8 : decode cX9_bound 8 = .ok (.iconst 0, 1) := by decide +kernel
theorem dX9_bound_9 : decode cX9_bound 9 = .ok (.goto 4, 3) := by decide +kernel
theorem dX9_bound_12 : decode cX9_bound 12 = .ok (.iconst 1, 1) := by decide +kernel
theorem dX9_bound_13 : decode cX9_bound 13 = .ok (.invokevirtual 104, 3) := by decide +kernel
theorem dX9_bound_16 : decode cX9_bound 16 = .ok (.ifCond .ne 5, 3) := by decide +kernel
theorem dX9_bound_19 : decode cX9_bound 19 = .ok (.iconst 0, 1) := by decide +kernel
theorem dX9_bound_20 : decode cX9_bound 20 = .ok (.ireturn, 1) := by decide +kernel
theorem dX9_bound_21 : decode cX9_bound 21 = .ok (.iconst 1, 1) := by decide +kernel
theorem dX9_bound_22 : decode cX9_bound 22 = .ok (.istore_n 3, 1) := by decide +kernel
theorem dX9_bound_23 : decode cX9_bound 23 = .ok (.iconst 2, 1) := by decide +kernel
theorem dX9_bound_24 : decode cX9_bound 24 = .ok (.istore 4, 2) := by decide +kernel
theorem dX9_bound_26 : decode cX9_bound 26 = .ok (.iload 4, 2) := by decide +kernel
theorem dX9_bound_28 : decode cX9_bound 28 = .ok (.aload_n 0, 1) := by decide +kernel
theorem dX9_bound_29 : decode cX9_bound 29 = .ok (.getfield 125, 3) := by decide +kernel
theorem dX9_bound_32 : decode cX9_bound 32 = .ok (.if_icmp .gt 14, 3) := by decide +kernel
theorem dX9_bound_35 : decode cX9_bound 35 = .ok (.iload_n 3, 1) := by decide +kernel
theorem dX9_bound_36 : decode cX9_bound 36 = .ok (.iload 4, 2) := by decide +kernel
theorem dX9_bound_38 : decode cX9_bound 38 = .ok (.imul, 1) := by decide +kernel
theorem dX9_bound_39 : decode cX9_bound 39 = .ok (.istore_n 3, 1) := by decide +kernel
theorem dX9_bound_40 : decode cX9_bound 40 = .ok (.iinc 4 1, 3) := by decide +kernel
theorem dX9_bound_43 : decode cX9_bound 43 = .ok (.goto (-17), 3) := by decide +kernel
theorem dX9_bound_46 : decode cX9_bound 46 = .ok (.iconst 0, 1) := by decide +kernel
theorem dX9_bound_47 : decode cX9_bound 47 = .ok (.istore 4, 2) := by decide +kernel
theorem dX9_bound_49 : decode cX9_bound 49 = .ok (.lconst 0, 1) := by decide +kernel
theorem dX9_bound_50 : decode cX9_bound 50 = .ok (.lstore 5, 2) := by decide +kernel
theorem dX9_bound_52 : decode cX9_bound 52 = .ok (.iconst 0, 1) := by decide +kernel
theorem dX9_bound_53 : decode cX9_bound 53 = .ok (.istore 7, 2) := by decide +kernel
theorem dX9_bound_55 : decode cX9_bound 55 = .ok (.iload 7, 2) := by decide +kernel
theorem dX9_bound_57 : decode cX9_bound 57 = .ok (.iload_n 3, 1) := by decide +kernel
theorem dX9_bound_58 : decode cX9_bound 58 = .ok (.if_icmp .ge 122, 3) := by decide +kernel
theorem dX9_bound_61 : decode cX9_bound 61 = .ok (.aload_n 0, 1) := by decide +kernel
theorem dX9_bound_62 : decode cX9_bound 62 = .ok (.iload 7, 2) := by decide +kernel
theorem dX9_bound_64 : decode cX9_bound 64 = .ok (.invokevirtual 148, 3) := by decide +kernel
theorem dX9_bound_67 : decode cX9_bound 67 = .ok (.iconst 1, 1) := by decide +kernel
theorem dX9_bound_68 : decode cX9_bound 68 = .ok (.istore 8, 2) := by decide +kernel
theorem dX9_bound_70 : decode cX9_bound 70 = .ok (.aload_n 0, 1) := by decide +kernel
theorem dX9_bound_71 : decode cX9_bound 71 = .ok (.getfield 132, 3) := by decide +kernel
theorem dX9_bound_74 : decode cX9_bound 74 = .ok (.ifCond .le 17, 3) := by decide +kernel
theorem dX9_bound_77 : decode cX9_bound 77 = .ok (.iload 8, 2) := by decide +kernel
theorem dX9_bound_79 : decode cX9_bound 79 = .ok (.ifCond .eq 12, 3) := by decide +kernel
theorem dX9_bound_82 : decode cX9_bound 82 = .ok (.aload_n 0, 1) := by decide +kernel
theorem dX9_bound_83 : decode cX9_bound 83 = .ok (.invokevirtual 151, 3) := by decide +kernel
theorem dX9_bound_86 : decode cX9_bound 86 = .ok (.istore 8, 2) := by decide +kernel
theorem dX9_bound_88 : decode cX9_bound 88 = .ok (.goto (-18), 3) := by decide +kernel
theorem dX9_bound_91 : decode cX9_bound 91 = .ok (.iload 4, 2) := by decide +kernel
theorem dX9_bound_93 : decode cX9_bound 93 = .ok (.ifCond .eq 34, 3) := by decide +kernel
theorem dX9_bound_96 : decode cX9_bound 96 = .ok (.iload_n 2, 1) := by decide +kernel
theorem dX9_bound_97 : decode cX9_bound 97 = .ok (.ifCond .eq 18, 3) := by decide +kernel
theorem dX9_bound_100 : decode cX9_bound 100 = .ok (.aload_n 0, 1) := by decide +kernel
theorem dX9_bound_101 : decode cX9_bound 101 = .ok (.getfield 82, 3) := by decide +kernel
theorem dX9_bound_104 : decode cX9_bound 104 = .ok (.iload_n 1, 1) := by decide +kernel
theorem dX9_bound_105 : decode cX9_bound 105 = .ok (.laload, 1) := by decide +kernel
theorem dX9_bound_106 : decode cX9_bound 106 = .ok (.lload 5, 2) := by decide +kernel
theorem dX9_bound_108 : decode cX9_bound 108 = .ok (.lcmp, 1) := by decide +kernel
theorem dX9_bound_109 : decode cX9_bound 109 = .ok (.ifCond .le 22, 3) := by decide +kernel
theorem dX9_bound_112 : decode cX9_bound 112 = .ok (.goto 15, 3) := by decide +kernel
theorem dX9_bound_115 : decode cX9_bound 115 = .ok (.aload_n 0, 1) := by decide +kernel
theorem dX9_bound_116 : decode cX9_bound 116 = .ok (.getfield 82, 3) := by decide +kernel
theorem dX9_bound_119 : decode cX9_bound 119 = .ok (.iload_n 1, 1) := by decide +kernel
theorem dX9_bound_120 : decode cX9_bound 120 = .ok (.laload, 1) := by decide +kernel
theorem dX9_bound_121 : decode cX9_bound 121 = .ok (.lload 5, 2) := by decide +kernel
theorem dX9_bound_123 : decode cX9_bound 123 = .ok (.lcmp, 1) := by decide +kernel
theorem dX9_bound_124 : decode cX9_bound 124 = .ok (.ifCond .ge 7, 3) := by decide +kernel
theorem dX9_bound_127 : decode cX9_bound 127 = .ok (.iconst 1, 1) := by decide +kernel
theorem dX9_bound_128 : decode cX9_bound 128 = .ok (.goto 4, 3) := by decide +kernel
theorem dX9_bound_131 : decode cX9_bound 131 = .ok (.iconst 0, 1) := by decide +kernel
theorem dX9_bound_132 : decode cX9_bound 132 = .ok (.istore 9, 2) := by decide +kernel
theorem dX9_bound_134 : decode cX9_bound 134 = .ok (.iload 8, 2) := by decide +kernel
theorem dX9_bound_136 : decode cX9_bound 136 = .ok (.ifCond .eq 17, 3) := by decide +kernel
theorem dX9_bound_139 : decode cX9_bound 139 = .ok (.iload 9, 2) := by decide +kernel
theorem dX9_bound_141 : decode cX9_bound 141 = .ok (.ifCond .eq 12, 3) := by decide +kernel
theorem dX9_bound_144 : decode cX9_bound 144 = .ok (.aload_n 0, 1) := by decide +kernel
theorem dX9_bound_145 : decode cX9_bound 145 = .ok (.getfield 82, 3) := by decide +kernel
theorem dX9_bound_148 : decode cX9_bound 148 = .ok (.iload_n 1, 1) := by decide +kernel
theorem dX9_bound_149 : decode cX9_bound 149 = .ok (.laload, 1) := by decide +kernel
theorem dX9_bound_150 : decode cX9_bound 150 = .ok (.goto 5, 3) := by decide +kernel
theorem dX9_bound_153 : decode cX9_bound 153 = .ok (.lload 5, 2) := by decide +kernel
theorem dX9_bound_155 : decode cX9_bound 155 = .ok (.lstore 5, 2) := by decide +kernel
theorem dX9_bound_157 : decode cX9_bound 157 = .ok (.iload 4, 2) := by decide +kernel
theorem dX9_bound_159 : decode cX9_bound 159 = .ok (.ifCond .ne 8, 3) := by decide +kernel
theorem dX9_bound_162 : decode cX9_bound 162 = .ok (.iload 8, 2) := by decide +kernel
theorem dX9_bound_164 : decode cX9_bound 164 = .ok (.ifCond .eq 7, 3) := by decide +kernel
theorem dX9_bound_167 : decode cX9_bound 167 = .ok (.iconst 1, 1) := by decide +kernel
theorem dX9_bound_168 : decode cX9_bound 168 = .ok (.goto 4, 3) := by decide +kernel
theorem dX9_bound_171 : decode cX9_bound 171 = .ok (.iconst 0, 1) := by decide +kernel
theorem dX9_bound_172 : decode cX9_bound 172 = .ok (.istore 4, 2) := by decide +kernel
theorem dX9_bound_174 : decode cX9_bound 174 = .ok (.iinc 7 1, 3) := by decide +kernel
theorem dX9_bound_177 : decode cX9_bound 177 = .ok (.goto (-122), 3) := by decide +kernel
theorem dX9_bound_180 : decode cX9_bound 180 = .ok (.iload 4, 2) := by decide +kernel
theorem dX9_bound_182 : decode cX9_bound 182 = .ok (.ifCond .eq 9, 3) := by decide +kernel
theorem dX9_bound_185 : decode cX9_bound 185 = .ok (.lload 5, 2) := by decide +kernel
theorem dX9_bound_187 : decode cX9_bound 187 = .ok (.l2i, 1) := by decide +kernel
theorem dX9_bound_188 : decode cX9_bound 188 = .ok (.goto 4, 3) := by decide +kernel
theorem dX9_bound_191 : decode cX9_bound 191 = .ok (.iconst (-1), 1) := by decide +kernel
theorem dX9_bound_192 : decode cX9_bound 192 = .ok (.ireturn, 1) := by decide +kernel
set_option maxRecDepth 20000 in
theorem ggX9_life_X9_isPlayer : GoodIn wsX9_life wsX9_isPlayer := goodIn_r _ [6, 7, 8, 5, 9] (by decide +kernel) (by decide +kernel)
set_option maxRecDepth 20000 in
theorem gX9_life_X9_isPlayer : GoodIn wsX9_life (va_wsS RX9 118 yX9_isPlayer wsX9_isPlayer) := goodIn_app (goodIn_of _ (by decide +kernel)) ggX9_life_X9_isPlayer
set_option maxRecDepth 20000 in
theorem ggX9_life_X9_goesWell : GoodIn wsX9_life wsX9_goesWell := goodIn_r _ [13, 14, 15, 16, 17, 18, 19, 20, 21, 22, 23, 24, 25, 26, 27, 28, 29, 30, 31, 32, 33, 34, 35, 36, 37, 38, 39, 40, 41, 42, 43, 44, 45, 46, 47, 48, 49, 50, 51] (by decide +kernel) (by decide +kernel)
set_option maxRecDepth 20000 in
theorem gX9_life_X9_goesWell : GoodIn wsX9_life (wsV RX9 104 RX9 yX9_goesWell wsX9_goesWell) := goodIn_app (goodIn_of _ (by decide +kernel)) ggX9_life_X9_goesWell
theorem dX9_life_0 : decode cX9_life 0 = .ok (.aload_n 0, 1) := by decide +kernel
theorem dX9_life_1 : decode cX9_life 1 = .ok (.iload_n 1, 1) := by decide +kernel
theorem dX9_life_2 : decode cX9_life 2 = .ok (.invokestatic 118, 3) := by decide +kernel
theorem dX9_life_5 : decode cX9_life 5 = .ok (.ifCond .eq 7, 3) := by decide +kernel
theorem dX9_life_8 : decode cX9_life 8 = .ok (.iconst 0, 1) := by decide +kernel
theorem dX9_life_9 : decode cX9_life 9 = .ok (.goto 4, 3) := by decide +kernel
theorem dX9_life_12 : decode cX9_life 12 = .ok (.iconst 1, 1) := by decide +kernel
theorem dX9_life_13 : decode cX9_life 13 = .ok (.invokevirtual 104, 3) := by decide +kernel
theorem dX9_life_16 : decode cX9_life 16 = .ok (.ifCond .eq 25, 3) := by decide +kernel
theorem dX9_life_19 : decode cX9_life 19 = .ok (.iload_n 2, 1) := by decide +kernel
theorem dX9_life_20 : decode cX9_life 20 = .ok (.ifCond .eq 12, 3) := by decide +kernel
theorem dX9_life_23 : decode cX9_life 23 = .ok (.aload_n 0, 1) := by decide +kernel
theorem dX9_life_24 : decode cX9_life 24 = .ok (.getfield 25, 3) := by decide +kernel
theorem dX9_life_27 : decode cX9_life 27 = .ok (.iload_n 1, 1) := by decide +kernel
theorem dX9_life_28 : decode cX9_life 28 = .ok (.iaload, 1) := by decide +kernel
theorem dX9_life_29 : decode cX9_life 29 = .ok (.goto 13, 3) := by decide +kernel
theorem dX9_life_32 : decode cX9_life 32 = .ok (.aload_n 0, 1) := by decide +kernel
theorem dX9_life_33 : decode cX9_life 33 = .ok (.getfield 22, 3) := by decide +kernel
theorem dX9_life_36 : decode cX9_life 36 = .ok (.iload_n 1, 1) := by decide +kernel
theorem dX9_life_37 : decode cX9_life 37 = .ok (.iaload, 1) := by decide +kernel
theorem dX9_life_38 : decode cX9_life 38 = .ok (.goto 4, 3) := by decide +kernel
theorem dX9_life_41 : decode cX9_life 41 = .ok (.iconst 0, 1) := by decide +kernel
theorem dX9_life_42 : decode cX9_life 42 = .ok (.ireturn, 1) := by decide +kernel
set_option maxRecDepth 20000 in
theorem ggX9_lifeAnew_X9_isPlayer : GoodIn wsX9_lifeAnew wsX9_isPlayer := goodIn_r _ [5, 6, 7, 4, 8] (by decide +kernel) (by decide +kernel)
set_option maxRecDepth 20000 in
theorem gX9_lifeAnew_X9_isPlayer : GoodIn wsX9_lifeAnew (va_wsS RX9 118 yX9_isPlayer wsX9_isPlayer) := goodIn_app (goodIn_of _ (by decide +kernel)) ggX9_lifeAnew_X9_isPlayer
set_option maxRecDepth 20000 in
theorem ggX9_lifeAnew_X9_goesWell : GoodIn wsX9_lifeAnew wsX9_goesWell := goodIn_r _ [12, 13, 14, 15, 16, 17, 18, 19, 20, 21, 22, 23, 24, 25, 26, 27, 28, 29, 30, 31, 32, 33, 34, 35, 36, 37, 38, 39, 40, 41, 42, 43, 44, 45, 46, 47, 48, 49, 50] (by decide +kernel) (by decide +kernel)
set_option maxRecDepth 20000 in
theorem gX9_lifeAnew_X9_goesWell : GoodIn wsX9_lifeAnew (wsV RX9 104 RX9 yX9_goesWell wsX9_goesWell) := goodIn_app (goodIn_of _ (by decide +kernel)) ggX9_lifeAnew_X9_goesWell
theorem dX9_lifeAnew_0 : decode cX9_lifeAnew 0 = .ok (.aload_n 0, 1) := by decide +kernel
theorem dX9_lifeAnew_1 : decode cX9_lifeAnew 1 = .ok (.iload_n 1, 1) := by decide +kernel
theorem dX9_lifeAnew_2 : decode cX9_lifeAnew 2 = .ok (.invokestatic 118, 3) := by decide +kernel
theorem dX9_lifeAnew_5 : decode cX9_lifeAnew 5 = .ok (.ifCond .eq 7, 3) := by decide +kernel
theorem dX9_lifeAnew_8 : decode cX9_lifeAnew 8 = .ok (.iconst 0, 1) := by decide +kernel
theorem dX9_lifeAnew_9 : decode cX9_lifeAnew 9 = .ok (.goto 4, 3) := by decide +kernel
theorem dX9_lifeAnew_12 : decode cX9_lifeAnew 12 = .ok (.iconst 1, 1) := by decide +kernel
theorem dX9_lifeAnew_13 : decode cX9_lifeAnew 13 = .ok (.invokevirtual 104, 3) := by decide +kernel
theorem dX9_lifeAnew_16 : decode cX9_lifeAnew 16 = .ok (.ifCond .eq 12, 3) := by decide +kernel
theorem dX9_lifeAnew_19 : decode cX9_lifeAnew 19 = .ok (.aload_n 0, 1) := by decide +kernel
theorem dX9_lifeAnew_20 : decode cX9_lifeAnew 20 = .ok (.getfield 22, 3) := by decide +kernel
theorem dX9_lifeAnew_23 : decode cX9_lifeAnew 23 = .ok (.iload_n 1, 1) := by decide +kernel
theorem dX9_lifeAnew_24 : decode cX9_lifeAnew 24 = .ok (.iaload, 1) := by decide +kernel
theorem dX9_lifeAnew_25 : decode cX9_lifeAnew 25 = .ok (.goto 4, 3) := by decide +kernel
theorem dX9_lifeAnew_28 : decode cX9_lifeAnew 28 = .ok (.iconst 0, 1) := by decide +kernel
theorem dX9_lifeAnew_29 : decode cX9_lifeAnew 29 = .ok (.ireturn, 1) := by decide +kernel
set_option maxRecDepth 20000 in
theorem ggX9_put_X9_isPlayer : GoodIn wsX9_put wsX9_isPlayer := goodIn_r _ [7, 8, 9, 6, 10] (by decide +kernel) (by decide +kernel)
set_option maxRecDepth 20000 in
theorem gX9_put_X9_isPlayer : GoodIn wsX9_put (va_wsS RX9 118 yX9_isPlayer wsX9_isPlayer) := goodIn_app (goodIn_of _ (by decide +kernel)) ggX9_put_X9_isPlayer
set_option maxRecDepth 20000 in
theorem ggX9_put_X9_isKind : GoodIn wsX9_put wsX9_isKind := goodIn_r _ [14, 15, 8, 9, 6, 10, 25, 26, 27, 28, 29, 30, 31, 32, 33, 34, 35, 36, 37, 38, 39, 40, 41, 42, 43, 44, 45, 46, 47, 48, 49, 50, 51, 52, 53, 54, 55, 56, 57, 58, 59, 60, 61] (by decide +kernel) (by decide +kernel)
set_option maxRecDepth 20000 in
theorem gX9_put_X9_isKind : GoodIn wsX9_put (wsV RX9 108 RX9 yX9_isKind wsX9_isKind) := goodIn_app (goodIn_of _ (by decide +kernel)) ggX9_put_X9_isKind
set_option maxRecDepth 20000 in
theorem ggX9_put_X9_inDeck : GoodIn wsX9_put wsX9_inDeck := goodIn_r _ [19, 1, 3, 25, 26, 27, 28, 29, 30, 31, 32, 33, 34, 35, 36, 37, 38, 39, 40, 41, 42, 43, 44, 45, 46, 47, 48, 49, 50, 51, 52, 53, 54, 55, 56, 57, 58, 59, 60, 61] (by decide +kernel) (by decide +kernel)
set_option maxRecDepth 20000 in
theorem gX9_put_X9_inDeck : GoodIn wsX9_put (wsV RX9 114 RX9 yX9_inDeck wsX9_inDeck) := goodIn_app (goodIn_of _ (by decide +kernel)) ggX9_put_X9_inDeck
set_option maxRecDepth 20000 in
theorem ggX9_put_X9_goesWell : GoodIn wsX9_put wsX9_goesWell := goodIn_r _ [23, 24, 25, 26, 27, 28, 29, 30, 31, 32, 33, 34, 35, 36, 37, 38, 39, 40, 41, 42, 43, 44, 45, 46, 47, 48, 49, 50, 51, 52, 53, 54, 55, 56, 57, 58, 59, 60, 61] (by decide +kernel) (by decide +kernel)
set_option maxRecDepth 20000 in
theorem gX9_put_X9_goesWell : GoodIn wsX9_put (wsV RX9 104 RX9 yX9_goesWell wsX9_goesWell) := goodIn_app (goodIn_of _ (by decide +kernel)) ggX9_put_X9_goesWell
theorem dX9_put_0 : decode cX9_put 0 = .ok (.iload_n 1, 1) := by decide +kernel
theorem dX9_put_1 : decode cX9_put 1 = .ok (.invokestatic 118, 3) := by decide +kernel
theorem dX9_put_4 : decode cX9_put 4 = .ok (.ifCond .eq 15, 3) := by decide +kernel
theorem dX9_put_7 : decode cX9_put 7 = .ok (.aload_n 0, 1) := by decide +kernel
theorem dX9_put_8 : decode cX9_put 8 = .ok (.iload_n 2, 1) := by decide +kernel
theorem dX9_put_9 : decode cX9_put 9 = .ok (.invokevirtual 108, 3) := by decide +kernel
theorem dX9_put_12 : decode cX9_put 12 = .ok (.ifCond .eq 7, 3) := by decide +kernel
theorem dX9_put_15 : decode cX9_put 15 = .ok (.iconst 1, 1) := by decide +kernel
theorem dX9_put_16 : decode cX9_put 16 = .ok (.goto 4, 3) := by decide +kernel
theorem dX9_put_19 : decode cX9_put 19 = .ok (.iconst 0, 1) := by decide +kernel
theorem dX9_put_20 : decode cX9_put 20 = .ok (.istore_n 3, 1) := by decide +kernel
theorem dX9_put_21 : decode cX9_put 21 = .ok (.iload_n 3, 1) := by decide +kernel
theorem dX9_put_22 : decode cX9_put 22 = .ok (.ifCond .eq 12, 3) := by decide +kernel
theorem dX9_put_25 : decode cX9_put 25 = .ok (.aload_n 0, 1) := by decide +kernel
theorem dX9_put_26 : decode cX9_put 26 = .ok (.iload_n 1, 1) := by decide +kernel
theorem dX9_put_27 : decode cX9_put 27 = .ok (.iload_n 2, 1) := by decide +kernel
theorem dX9_put_28 : decode cX9_put 28 = .ok (.invokevirtual 114, 3) := by decide +kernel
theorem dX9_put_31 : decode cX9_put 31 = .ok (.goto 4, 3) := by decide +kernel
theorem dX9_put_34 : decode cX9_put 34 = .ok (.iconst 0, 1) := by decide +kernel
theorem dX9_put_35 : decode cX9_put 35 = .ok (.istore 4, 2) := by decide +kernel
theorem dX9_put_37 : decode cX9_put 37 = .ok (.aload_n 0, 1) := by decide +kernel
theorem dX9_put_38 : decode cX9_put 38 = .ok (.iload_n 3, 1) := by decide +kernel
theorem dX9_put_39 : decode cX9_put 39 = .ok (.ifCond .ne 7, 3) := by decide +kernel
theorem dX9_put_42 : decode cX9_put 42 = .ok (.iconst 1, 1) := by decide +kernel
theorem dX9_put_43 : decode cX9_put 43 = .ok (.goto 41, 3) := by decide +kernel
theorem dX9_put_46 : decode cX9_put 46 = .ok (.aload_n 0, 1) := by decide +kernel
theorem dX9_put_47 : decode cX9_put 47 = .ok (.getfield 38, 3) := by decide +kernel
theorem dX9_put_50 : decode cX9_put 50 = .ok (.iload_n 1, 1) := by decide +kernel
theorem dX9_put_51 : decode cX9_put 51 = .ok (.iaload, 1) := by decide +kernel
theorem dX9_put_52 : decode cX9_put 52 = .ok (.bipush 8, 2) := by decide +kernel
theorem dX9_put_54 : decode cX9_put 54 = .ok (.if_icmp .eq 25, 3) := by decide +kernel
theorem dX9_put_57 : decode cX9_put 57 = .ok (.iload 4, 2) := by decide +kernel
theorem dX9_put_59 : decode cX9_put 59 = .ok (.iconst 3, 1) := by decide +kernel
theorem dX9_put_60 : decode cX9_put 60 = .ok (.if_icmp .ge 19, 3) := by decide +kernel
theorem dX9_put_63 : decode cX9_put 63 = .ok (.iload 4, 2) := by decide +kernel
theorem dX9_put_65 : decode cX9_put 65 = .ok (.aload_n 0, 1) := by decide +kernel
theorem dX9_put_66 : decode cX9_put 66 = .ok (.getfield 19, 3) := by decide +kernel
theorem dX9_put_69 : decode cX9_put 69 = .ok (.bipush 20, 2) := by decide +kernel
theorem dX9_put_71 : decode cX9_put 71 = .ok (.iload_n 1, 1) := by decide +kernel
theorem dX9_put_72 : decode cX9_put 72 = .ok (.imul, 1) := by decide +kernel
theorem dX9_put_73 : decode cX9_put 73 = .ok (.iload_n 2, 1) := by decide +kernel
theorem dX9_put_74 : decode cX9_put 74 = .ok (.iadd, 1) := by decide +kernel
theorem dX9_put_75 : decode cX9_put 75 = .ok (.iaload, 1) := by decide +kernel
theorem dX9_put_76 : decode cX9_put 76 = .ok (.if_icmp .lt 7, 3) := by decide +kernel
theorem dX9_put_79 : decode cX9_put 79 = .ok (.iconst 2, 1) := by decide +kernel
theorem dX9_put_80 : decode cX9_put 80 = .ok (.goto 4, 3) := by decide +kernel
theorem dX9_put_83 : decode cX9_put 83 = .ok (.iconst 0, 1) := by decide +kernel
theorem dX9_put_84 : decode cX9_put 84 = .ok (.invokevirtual 104, 3) := by decide +kernel
theorem dX9_put_87 : decode cX9_put 87 = .ok (.ifCond .ne 5, 3) := by decide +kernel
theorem dX9_put_90 : decode cX9_put 90 = .ok (.iconst 0, 1) := by decide +kernel
theorem dX9_put_91 : decode cX9_put 91 = .ok (.ireturn, 1) := by decide +kernel
theorem dX9_put_92 : decode cX9_put 92 = .ok (.aload_n 0, 1) := by decide +kernel
theorem dX9_put_93 : decode cX9_put 93 = .ok (.getfield 35, 3) := by decide +kernel
theorem dX9_put_96 : decode cX9_put 96 = .ok (.bipush 8, 2) := by decide +kernel
theorem dX9_put_98 : decode cX9_put 98 = .ok (.iload_n 1, 1) := by decide +kernel
theorem dX9_put_99 : decode cX9_put 99 = .ok (.imul, 1) := by decide +kernel
theorem dX9_put_100 : decode cX9_put 100 = .ok (.aload_n 0, 1) := by decide +kernel
theorem dX9_put_101 : decode cX9_put 101 = .ok (.getfield 38, 3) := by decide +kernel
theorem dX9_put_104 : decode cX9_put 104 = .ok (.iload_n 1, 1) := by decide +kernel
theorem dX9_put_105 : decode cX9_put 105 = .ok (.iaload, 1) := by decide +kernel
theorem dX9_put_106 : decode cX9_put 106 = .ok (.iadd, 1) := by decide +kernel
theorem dX9_put_107 : decode cX9_put 107 = .ok (.iload_n 2, 1) := by decide +kernel
theorem dX9_put_108 : decode cX9_put 108 = .ok (.iastore, 1) := by decide +kernel
theorem dX9_put_109 : decode cX9_put 109 = .ok (.aload_n 0, 1) := by decide +kernel
theorem dX9_put_110 : decode cX9_put 110 = .ok (.getfield 38, 3) := by decide +kernel
theorem dX9_put_113 : decode cX9_put 113 = .ok (.iload_n 1, 1) := by decide +kernel
theorem dX9_put_114 : decode cX9_put 114 = .ok (.dup2, 1) := by decide +kernel
theorem dX9_put_115 : decode cX9_put 115 = .ok (.iaload, 1) := by decide +kernel
theorem dX9_put_116 : decode cX9_put 116 = .ok (.iconst 1, 1) := by decide +kernel
theorem dX9_put_117 : decode cX9_put 117 = .ok (.iadd, 1) := by decide +kernel
theorem dX9_put_118 : decode cX9_put 118 = .ok (.iastore, 1) := by decide +kernel
theorem dX9_put_119 : decode cX9_put 119 = .ok (.aload_n 0, 1) := by decide +kernel
theorem dX9_put_120 : decode cX9_put 120 = .ok (.getfield 38, 3) := by decide +kernel
theorem dX9_put_123 : decode cX9_put 123 = .ok (.iload_n 1, 1) := by decide +kernel
theorem dX9_put_124 : decode cX9_put 124 = .ok (.iaload, 1) := by decide +kernel
theorem dX9_put_125 : decode cX9_put 125 = .ok (.ireturn, 1) := by decide +kernel
set_option maxRecDepth 20000 in
theorem ggX9_isGood_X9_isPlayer : GoodIn wsX9_isGood wsX9_isPlayer := goodIn_r _ [8, 9, 10, 7, 11] (by decide +kernel) (by decide +kernel)
set_option maxRecDepth 20000 in
theorem gX9_isGood_X9_isPlayer : GoodIn wsX9_isGood (va_wsS RX9 118 yX9_isPlayer wsX9_isPlayer) := goodIn_app (goodIn_of _ (by decide +kernel)) ggX9_isGood_X9_isPlayer
set_option maxRecDepth 20000 in
theorem ggX9_isGood_X9_in : GoodIn wsX9_isGood wsX9_in := goodIn_r _ [11] (by decide +kernel) (by decide +kernel)
set_option maxRecDepth 20000 in
theorem gX9_isGood_X9_in : GoodIn wsX9_isGood (va_wsS RX9 97 yX9_in wsX9_in) := goodIn_app (goodIn_of _ (by decide +kernel)) ggX9_isGood_X9_in
set_option maxRecDepth 20000 in
theorem ggX9_isGood_X9_goesWell : GoodIn wsX9_isGood wsX9_goesWell := goodIn_r _ [15, 16, 27, 28, 29, 30, 31, 32, 33, 34, 35, 36, 37, 38, 39, 40, 41, 42, 43, 44, 45, 46, 47, 48, 49, 50, 51, 52, 53, 54, 55, 56, 57, 58, 59, 60, 61, 62, 63] (by decide +kernel) (by decide +kernel)
set_option maxRecDepth 20000 in
theorem gX9_isGood_X9_goesWell : GoodIn wsX9_isGood (wsV RX9 104 RX9 yX9_goesWell wsX9_goesWell) := goodIn_app (goodIn_of _ (by decide +kernel)) ggX9_isGood_X9_goesWell
set_option maxRecDepth 20000 in
theorem ggX9_isGood_X9_inDeck : GoodIn wsX9_isGood wsX9_inDeck := goodIn_r _ [20, 2, 21, 27, 28, 29, 30, 31, 32, 33, 34, 35, 36, 37, 38, 39, 40, 41, 42, 43, 44, 45, 46, 47, 48, 49, 50, 51, 52, 53, 54, 55, 56, 57, 58, 59, 60, 61, 62, 63] (by decide +kernel) (by decide +kernel)
set_option maxRecDepth 20000 in
theorem gX9_isGood_X9_inDeck : GoodIn wsX9_isGood (wsV RX9 114 RX9 yX9_inDeck wsX9_inDeck) := goodIn_app (goodIn_of _ (by decide +kernel)) ggX9_isGood_X9_inDeck
set_option maxRecDepth 20000 in
theorem ggX9_isGood_X9_isBanned : GoodIn wsX9_isGood wsX9_isBanned := goodIn_r _ [25, 26, 27, 28, 29, 30, 31, 32, 33, 34, 35, 36, 37, 38, 39, 40, 41, 42, 43, 44, 45, 46, 47, 48, 49, 50, 51, 52, 53, 54, 55, 56, 57, 58, 59, 60, 61, 62, 63] (by decide +kernel) (by decide +kernel)
set_option maxRecDepth 20000 in
theorem gX9_isGood_X9_isBanned : GoodIn wsX9_isGood (wsV RX9 121 RX9 yX9_isBanned wsX9_isBanned) := goodIn_app (goodIn_of _ (by decide +kernel)) ggX9_isGood_X9_isBanned
theorem dX9_isGood_0 : decode cX9_isGood 0 = .ok (.iload_n 1, 1) := by decide +kernel
theorem dX9_isGood_1 : decode cX9_isGood 1 = .ok (.invokestatic 118, 3) := by decide +kernel
theorem dX9_isGood_4 : decode cX9_isGood 4 = .ok (.istore_n 3, 1) := by decide +kernel
theorem dX9_isGood_5 : decode cX9_isGood 5 = .ok (.aload_n 0, 1) := by decide +kernel
theorem dX9_isGood_6 : decode cX9_isGood 6 = .ok (.iload_n 3, 1) := by decide +kernel
theorem dX9_isGood_7 : decode cX9_isGood 7 = .ok (.ifCond .ne 7, 3) := by decide +kernel
theorem dX9_isGood_10 : decode cX9_isGood 10 = .ok (.iconst 1, 1) := by decide +kernel
theorem dX9_isGood_11 : decode cX9_isGood 11 = .ok (.goto 22, 3) := by decide +kernel
theorem dX9_isGood_14 : decode cX9_isGood 14 = .ok (.iload_n 2, 1) := by decide +kernel
theorem dX9_isGood_15 : decode cX9_isGood 15 = .ok (.aload_n 0, 1) := by decide +kernel
theorem dX9_isGood_16 : decode cX9_isGood 16 = .ok (.getfield 111, 3) := by decide +kernel
theorem dX9_isGood_19 : decode cX9_isGood 19 = .ok (.sipush 1000, 3) := by decide +kernel
theorem dX9_isGood_22 : decode cX9_isGood 22 = .ok (.invokestatic 97, 3) := by decide +kernel
theorem dX9_isGood_25 : decode cX9_isGood 25 = .ok (.ifCond .eq 7, 3) := by decide +kernel
theorem dX9_isGood_28 : decode cX9_isGood 28 = .ok (.iconst 0, 1) := by decide +kernel
theorem dX9_isGood_29 : decode cX9_isGood 29 = .ok (.goto 4, 3) := by decide +kernel
theorem dX9_isGood_32 : decode cX9_isGood 32 = .ok (.iconst 2, 1) := by decide +kernel
theorem dX9_isGood_33 : decode cX9_isGood 33 = .ok (.invokevirtual 104, 3) := by decide +kernel
theorem dX9_isGood_36 : decode cX9_isGood 36 = .ok (.ifCond .ne 5, 3) := by decide +kernel
theorem dX9_isGood_39 : decode cX9_isGood 39 = .ok (.iconst 0, 1) := by decide +kernel
theorem dX9_isGood_40 : decode cX9_isGood 40 = .ok (.ireturn, 1) := by decide +kernel
theorem dX9_isGood_41 : decode cX9_isGood 41 = .ok (.aload_n 0, 1) := by decide +kernel
theorem dX9_isGood_42 : decode cX9_isGood 42 = .ok (.getfield 38, 3) := by decide +kernel
theorem dX9_isGood_45 : decode cX9_isGood 45 = .ok (.iload_n 1, 1) := by decide +kernel
theorem dX9_isGood_46 : decode cX9_isGood 46 = .ok (.iaload, 1) := by decide +kernel
theorem dX9_isGood_47 : decode cX9_isGood 47 = .ok (.iconst 4, 1) := by decide +kernel
theorem dX9_isGood_48 : decode cX9_isGood 48 = .ok (.if_icmp .lt 7, 3) := by decide +kernel
theorem dX9_isGood_51 : decode cX9_isGood 51 = .ok (.iconst 1, 1) := by decide +kernel
theorem dX9_isGood_52 : decode cX9_isGood 52 = .ok (.goto 4, 3) := by decide +kernel
theorem dX9_isGood_55 : decode cX9_isGood 55 = .ok (.iconst 0, 1) := by decide +kernel
theorem dX9_isGood_56 : decode cX9_isGood 56 = .ok (.istore 4, 2) := by decide +kernel
theorem dX9_isGood_58 : decode cX9_isGood 58 = .ok (.iconst 0, 1) := by decide +kernel
theorem dX9_isGood_59 : decode cX9_isGood 59 = .ok (.istore 5, 2) := by decide +kernel
theorem dX9_isGood_61 : decode cX9_isGood 61 = .ok (.iload 5, 2) := by decide +kernel
theorem dX9_isGood_63 : decode cX9_isGood 63 = .ok (.aload_n 0, 1) := by decide +kernel
theorem dX9_isGood_64 : decode cX9_isGood 64 = .ok (.getfield 101, 3) := by decide +kernel
theorem dX9_isGood_67 : decode cX9_isGood 67 = .ok (.if_icmp .ge 68, 3) := by decide +kernel
theorem dX9_isGood_70 : decode cX9_isGood 70 = .ok (.aload_n 0, 1) := by decide +kernel
theorem dX9_isGood_71 : decode cX9_isGood 71 = .ok (.iload_n 1, 1) := by decide +kernel
theorem dX9_isGood_72 : decode cX9_isGood 72 = .ok (.iload 5, 2) := by decide +kernel
theorem dX9_isGood_74 : decode cX9_isGood 74 = .ok (.invokevirtual 114, 3) := by decide +kernel
theorem dX9_isGood_77 : decode cX9_isGood 77 = .ok (.istore 6, 2) := by decide +kernel
theorem dX9_isGood_79 : decode cX9_isGood 79 = .ok (.iload 4, 2) := by decide +kernel
theorem dX9_isGood_81 : decode cX9_isGood 81 = .ok (.ifCond .eq 45, 3) := by decide +kernel
theorem dX9_isGood_84 : decode cX9_isGood 84 = .ok (.iload 6, 2) := by decide +kernel
theorem dX9_isGood_86 : decode cX9_isGood 86 = .ok (.iconst 3, 1) := by decide +kernel
theorem dX9_isGood_87 : decode cX9_isGood 87 = .ok (.if_icmp .gt 39, 3) := by decide +kernel
theorem dX9_isGood_90 : decode cX9_isGood 90 = .ok (.iload 6, 2) := by decide +kernel
theorem dX9_isGood_92 : decode cX9_isGood 92 = .ok (.aload_n 0, 1) := by decide +kernel
theorem dX9_isGood_93 : decode cX9_isGood 93 = .ok (.getfield 19, 3) := by decide +kernel
theorem dX9_isGood_96 : decode cX9_isGood 96 = .ok (.bipush 20, 2) := by decide +kernel
theorem dX9_isGood_98 : decode cX9_isGood 98 = .ok (.iload_n 1, 1) := by decide +kernel
theorem dX9_isGood_99 : decode cX9_isGood 99 = .ok (.imul, 1) := by decide +kernel
theorem dX9_isGood_100 : decode cX9_isGood 100 = .ok (.iload 5, 2) := by decide +kernel
theorem dX9_isGood_102 : decode cX9_isGood 102 = .ok (.iadd, 1) := by decide +kernel
theorem dX9_isGood_103 : decode cX9_isGood 103 = .ok (.iaload, 1) := by decide +kernel
theorem dX9_isGood_104 : decode cX9_isGood 104 = .ok (.if_icmp .gt 22, 3) := by decide +kernel
theorem dX9_isGood_107 : decode cX9_isGood 107 = .ok (.iload 6, 2) := by decide +kernel
theorem dX9_isGood_109 : decode cX9_isGood 109 = .ok (.ifCond .eq 13, 3) := by decide +kernel
theorem dX9_isGood_112 : decode cX9_isGood 112 = .ok (.aload_n 0, 1) := by decide +kernel
theorem dX9_isGood_113 : decode cX9_isGood 113 = .ok (.iload 5, 2) := by decide +kernel
theorem dX9_isGood_115 : decode cX9_isGood 115 = .ok (.iload_n 2, 1) := by decide +kernel
theorem dX9_isGood_116 : decode cX9_isGood 116 = .ok (.invokevirtual 121, 3) := by decide +kernel
theorem dX9_isGood_119 : decode cX9_isGood 119 = .ok (.ifCond .ne 7, 3) := by decide +kernel
theorem dX9_isGood_122 : decode cX9_isGood 122 = .ok (.iconst 1, 1) := by decide +kernel
theorem dX9_isGood_123 : decode cX9_isGood 123 = .ok (.goto 4, 3) := by decide +kernel
theorem dX9_isGood_126 : decode cX9_isGood 126 = .ok (.iconst 0, 1) := by decide +kernel
theorem dX9_isGood_127 : decode cX9_isGood 127 = .ok (.istore 4, 2) := by decide +kernel
theorem dX9_isGood_129 : decode cX9_isGood 129 = .ok (.iinc 5 1, 3) := by decide +kernel
theorem dX9_isGood_132 : decode cX9_isGood 132 = .ok (.goto (-71), 3) := by decide +kernel
theorem dX9_isGood_135 : decode cX9_isGood 135 = .ok (.iload 4, 2) := by decide +kernel
theorem dX9_isGood_137 : decode cX9_isGood 137 = .ok (.ireturn, 1) := by decide +kernel
set_option maxRecDepth 20000 in
theorem ggX9_draft_X9_in : GoodIn wsX9_draft wsX9_in := goodIn_r _ [13] (by decide +kernel) (by decide +kernel)
set_option maxRecDepth 20000 in
theorem gX9_draft_X9_in : GoodIn wsX9_draft (va_wsS RX9 97 yX9_in wsX9_in) := goodIn_app (goodIn_of _ (by decide +kernel)) ggX9_draft_X9_in
set_option maxRecDepth 20000 in
theorem ggX9_draft_X9_goesWell : GoodIn wsX9_draft wsX9_goesWell := goodIn_r _ [17, 18, 19, 20, 21, 22, 23, 24, 25, 26, 27, 28, 29, 30, 31, 32, 33, 34, 35, 36, 37, 38, 39, 40, 41, 42, 43, 44, 45, 46, 47, 48, 49, 50, 51, 52, 53, 54, 55] (by decide +kernel) (by decide +kernel)
set_option maxRecDepth 20000 in
theorem gX9_draft_X9_goesWell : GoodIn wsX9_draft (wsV RX9 104 RX9 yX9_goesWell wsX9_goesWell) := goodIn_app (goodIn_of _ (by decide +kernel)) ggX9_draft_X9_goesWell
theorem dX9_draft_0 : decode cX9_draft 0 = .ok (.iload_n 1, 1) := by decide +kernel
theorem dX9_draft_1 : decode cX9_draft 1 = .ok (.iconst 2, 1) := by decide +kernel
theorem dX9_draft_2 : decode cX9_draft 2 = .ok (.bipush 6, 2) := by decide +kernel
theorem dX9_draft_4 : decode cX9_draft 4 = .ok (.invokestatic 97, 3) := by decide +kernel
theorem dX9_draft_7 : decode cX9_draft 7 = .ok (.ifCond .eq 27, 3) := by decide +kernel
theorem dX9_draft_10 : decode cX9_draft 10 = .ok (.iload_n 2, 1) := by decide +kernel
theorem dX9_draft_11 : decode cX9_draft 11 = .ok (.iconst 3, 1) := by decide +kernel
theorem dX9_draft_12 : decode cX9_draft 12 = .ok (.bipush 6, 2) := by decide +kernel
theorem dX9_draft_14 : decode cX9_draft 14 = .ok (.invokestatic 97, 3) := by decide +kernel
theorem dX9_draft_17 : decode cX9_draft 17 = .ok (.ifCond .eq 17, 3) := by decide +kernel
theorem dX9_draft_20 : decode cX9_draft 20 = .ok (.iload_n 3, 1) := by decide +kernel
theorem dX9_draft_21 : decode cX9_draft 21 = .ok (.iconst 0, 1) := by decide +kernel
theorem dX9_draft_22 : decode cX9_draft 22 = .ok (.ldc 155, 2) := by decide +kernel
theorem dX9_draft_24 : decode cX9_draft 24 = .ok (.invokestatic 97, 3) := by decide +kernel
theorem dX9_draft_27 : decode cX9_draft 27 = .ok (.ifCond .eq 7, 3) := by decide +kernel
theorem dX9_draft_30 : decode cX9_draft 30 = .ok (.iconst 1, 1) := by decide +kernel
theorem dX9_draft_31 : decode cX9_draft 31 = .ok (.goto 4, 3) := by decide +kernel
theorem dX9_draft_34 : decode cX9_draft 34 = .ok (.iconst 0, 1) := by decide +kernel
theorem dX9_draft_35 : decode cX9_draft 35 = .ok (.istore 4, 2) := by decide +kernel
theorem dX9_draft_37 : decode cX9_draft 37 = .ok (.aload_n 0, 1) := by decide +kernel
theorem dX9_draft_38 : decode cX9_draft 38 = .ok (.iload 4, 2) := by decide +kernel
theorem dX9_draft_40 : decode cX9_draft 40 = .ok (.ifCond .ne 7, 3) := by decide +kernel
theorem dX9_draft_43 : decode cX9_draft 43 = .ok (.iconst 1, 1) := by decide +kernel
theorem dX9_draft_44 : decode cX9_draft 44 = .ok (.goto 15, 3) := by decide +kernel
theorem dX9_draft_47 : decode cX9_draft 47 = .ok (.aload_n 0, 1) := by decide +kernel
theorem dX9_draft_48 : decode cX9_draft 48 = .ok (.getfield 101, 3) := by decide +kernel
theorem dX9_draft_51 : decode cX9_draft 51 = .ok (.ifCond .ne 7, 3) := by decide +kernel
theorem dX9_draft_54 : decode cX9_draft 54 = .ok (.iconst 2, 1) := by decide +kernel
theorem dX9_draft_55 : decode cX9_draft 55 = .ok (.goto 4, 3) := by decide +kernel
theorem dX9_draft_58 : decode cX9_draft 58 = .ok (.iconst 0, 1) := by decide +kernel
theorem dX9_draft_59 : decode cX9_draft 59 = .ok (.invokevirtual 104, 3) := by decide +kernel
theorem dX9_draft_62 : decode cX9_draft 62 = .ok (.ifCond .ne 4, 3) := by decide +kernel
theorem dX9_draft_65 : decode cX9_draft 65 = .ok (.return_, 1) := by decide +kernel
theorem dX9_draft_66 : decode cX9_draft 66 = .ok (.iload_n 3, 1) := by decide +kernel
theorem dX9_draft_67 : decode cX9_draft 67 = .ok (.istore 5, 2) := by decide +kernel
theorem dX9_draft_69 : decode cX9_draft 69 = .ok (.iconst 0, 1) := by decide +kernel
theorem dX9_draft_70 : decode cX9_draft 70 = .ok (.istore 6, 2) := by decide +kernel
theorem dX9_draft_72 : decode cX9_draft 72 = .ok (.iload 6, 2) := by decide +kernel
theorem dX9_draft_74 : decode cX9_draft 74 = .ok (.iload_n 1, 1) := by decide +kernel
theorem dX9_draft_75 : decode cX9_draft 75 = .ok (.if_icmp .ge 65, 3) := by decide +kernel
theorem dX9_draft_78 : decode cX9_draft 78 = .ok (.iconst 0, 1) := by decide +kernel
theorem dX9_draft_79 : decode cX9_draft 79 = .ok (.istore 7, 2) := by decide +kernel
theorem dX9_draft_81 : decode cX9_draft 81 = .ok (.iload 7, 2) := by decide +kernel
theorem dX9_draft_83 : decode cX9_draft 83 = .ok (.iload_n 2, 1) := by decide +kernel
theorem dX9_draft_84 : decode cX9_draft 84 = .ok (.if_icmp .ge 42, 3) := by decide +kernel
theorem dX9_draft_87 : decode cX9_draft 87 = .ok (.bipush 75, 2) := by decide +kernel
theorem dX9_draft_89 : decode cX9_draft 89 = .ok (.iload 5, 2) := by decide +kernel
theorem dX9_draft_91 : decode cX9_draft 91 = .ok (.imul, 1) := by decide +kernel
theorem dX9_draft_92 : decode cX9_draft 92 = .ok (.bipush 74, 2) := by decide +kernel
theorem dX9_draft_94 : decode cX9_draft 94 = .ok (.iadd, 1) := by decide +kernel
theorem dX9_draft_95 : decode cX9_draft 95 = .ok (.ldc 156, 2) := by decide +kernel
theorem dX9_draft_97 : decode cX9_draft 97 = .ok (.irem, 1) := by decide +kernel
theorem dX9_draft_98 : decode cX9_draft 98 = .ok (.istore 5, 2) := by decide +kernel
theorem dX9_draft_100 : decode cX9_draft 100 = .ok (.aload_n 0, 1) := by decide +kernel
theorem dX9_draft_101 : decode cX9_draft 101 = .ok (.getfield 57, 3) := by decide +kernel
theorem dX9_draft_104 : decode cX9_draft 104 = .ok (.bipush 6, 2) := by decide +kernel
theorem dX9_draft_106 : decode cX9_draft 106 = .ok (.iload 6, 2) := by decide +kernel
theorem dX9_draft_108 : decode cX9_draft 108 = .ok (.imul, 1) := by decide +kernel
theorem dX9_draft_109 : decode cX9_draft 109 = .ok (.iload 7, 2) := by decide +kernel
theorem dX9_draft_111 : decode cX9_draft 111 = .ok (.iadd, 1) := by decide +kernel
theorem dX9_draft_112 : decode cX9_draft 112 = .ok (.iload 5, 2) := by decide +kernel
theorem dX9_draft_114 : decode cX9_draft 114 = .ok (.aload_n 0, 1) := by decide +kernel
theorem dX9_draft_115 : decode cX9_draft 115 = .ok (.getfield 101, 3) := by decide +kernel
theorem dX9_draft_118 : decode cX9_draft 118 = .ok (.irem, 1) := by decide +kernel
theorem dX9_draft_119 : decode cX9_draft 119 = .ok (.iastore, 1) := by decide +kernel
theorem dX9_draft_120 : decode cX9_draft 120 = .ok (.iinc 7 1, 3) := by decide +kernel
theorem dX9_draft_123 : decode cX9_draft 123 = .ok (.goto (-42), 3) := by decide +kernel
theorem dX9_draft_126 : decode cX9_draft 126 = .ok (.aload_n 0, 1) := by decide +kernel
theorem dX9_draft_127 : decode cX9_draft 127 = .ok (.getfield 60, 3) := by decide +kernel
theorem dX9_draft_130 : decode cX9_draft 130 = .ok (.iload 6, 2) := by decide +kernel
theorem dX9_draft_132 : decode cX9_draft 132 = .ok (.iload_n 2, 1) := by decide +kernel
theorem dX9_draft_133 : decode cX9_draft 133 = .ok (.iastore, 1) := by decide +kernel
theorem dX9_draft_134 : decode cX9_draft 134 = .ok (.iinc 6 1, 3) := by decide +kernel
theorem dX9_draft_137 : decode cX9_draft 137 = .ok (.goto (-65), 3) := by decide +kernel
theorem dX9_draft_140 : decode cX9_draft 140 = .ok (.aload_n 0, 1) := by decide +kernel
theorem dX9_draft_141 : decode cX9_draft 141 = .ok (.iload_n 1, 1) := by decide +kernel
theorem dX9_draft_142 : decode cX9_draft 142 = .ok (.putfield 157, 3) := by decide +kernel
theorem dX9_draft_145 : decode cX9_draft 145 = .ok (.aload_n 0, 1) := by decide +kernel
theorem dX9_draft_146 : decode cX9_draft 146 = .ok (.iload_n 2, 1) := by decide +kernel
theorem dX9_draft_147 : decode cX9_draft 147 = .ok (.putfield 160, 3) := by decide +kernel
theorem dX9_draft_150 : decode cX9_draft 150 = .ok (.aload_n 0, 1) := by decide +kernel
theorem dX9_draft_151 : decode cX9_draft 151 = .ok (.iconst 0, 1) := by decide +kernel
theorem dX9_draft_152 : decode cX9_draft 152 = .ok (.putfield 163, 3) := by decide +kernel
theorem dX9_draft_155 : decode cX9_draft 155 = .ok (.aload_n 0, 1) := by decide +kernel
theorem dX9_draft_156 : decode cX9_draft 156 = .ok (.iconst 0, 1) := by decide +kernel
theorem dX9_draft_157 : decode cX9_draft 157 = .ok (.putfield 53, 3) := by decide +kernel
theorem dX9_draft_160 : decode cX9_draft 160 = .ok (.return_, 1) := by decide +kernel
theorem dX9_packBefore_0 : decode cX9_packBefore 0 = .ok (.aload_n 0, 1) := by decide +kernel
theorem dX9_packBefore_1 : decode cX9_packBefore 1 = .ok (.getfield 53, 3) := by decide +kernel
theorem dX9_packBefore_4 : decode cX9_packBefore 4 = .ok (.aload_n 0, 1) := by decide +kernel
theorem dX9_packBefore_5 : decode cX9_packBefore 5 = .ok (.getfield 163, 3) := by decide +kernel
theorem dX9_packBefore_8 : decode cX9_packBefore 8 = .ok (.aload_n 0, 1) := by decide +kernel
theorem dX9_packBefore_9 : decode cX9_packBefore 9 = .ok (.getfield 157, 3) := by decide +kernel
theorem dX9_packBefore_12 : decode cX9_packBefore 12 = .ok (.irem, 1) := by decide +kernel
theorem dX9_packBefore_13 : decode cX9_packBefore 13 = .ok (.isub, 1) := by decide +kernel
theorem dX9_packBefore_14 : decode cX9_packBefore 14 = .ok (.aload_n 0, 1) := by decide +kernel
theorem dX9_packBefore_15 : decode cX9_packBefore 15 = .ok (.getfield 157, 3) := by decide +kernel
theorem dX9_packBefore_18 : decode cX9_packBefore 18 = .ok (.iadd, 1) := by decide +kernel
theorem dX9_packBefore_19 : decode cX9_packBefore 19 = .ok (.aload_n 0, 1) := by decide +kernel
theorem dX9_packBefore_20 : decode cX9_packBefore 20 = .ok (.getfield 157, 3) := by decide +kernel
theorem dX9_packBefore_23 : decode cX9_packBefore 23 = .ok (.irem, 1) := by decide +kernel
theorem dX9_packBefore_24 : decode cX9_packBefore 24 = .ok (.ireturn, 1) := by decide +kernel
set_option maxRecDepth 20000 in
theorem ggX9_offered_X9_goesWell : GoodIn wsX9_offered wsX9_goesWell := goodIn_r _ [9, 2, 16, 17, 18, 19, 20, 21, 22, 23, 24, 25, 26, 27, 28, 29, 30, 31, 32, 33, 34, 35, 36, 37, 38, 39, 40, 41, 42, 43, 44, 45, 46, 47, 48, 49, 50, 51, 52] (by decide +kernel) (by decide +kernel)
set_option maxRecDepth 20000 in
theorem gX9_offered_X9_goesWell : GoodIn wsX9_offered (wsV RX9 104 RX9 yX9_goesWell wsX9_goesWell) := goodIn_app (goodIn_of _ (by decide +kernel)) ggX9_offered_X9_goesWell
set_option maxRecDepth 20000 in
theorem ggX9_offered_X9_packBefore : GoodIn wsX9_offered wsX9_packBefore := goodIn_r _ [13, 1, 14, 15, 16, 17, 18, 19, 20, 21, 22, 23, 24, 25, 26, 27, 28, 29, 30, 31, 32, 33, 34, 35, 36, 37, 38, 39, 40, 41, 42, 43, 44, 45, 46, 47, 48, 49, 50, 51, 52] (by decide +kernel) (by decide +kernel)
set_option maxRecDepth 20000 in
theorem gX9_offered_X9_packBefore : GoodIn wsX9_offered (wsV RX9 166 RX9 yX9_packBefore wsX9_packBefore) := goodIn_app (goodIn_of _ (by decide +kernel)) ggX9_offered_X9_packBefore
theorem dX9_offered_0 : decode cX9_offered 0 = .ok (.aload_n 0, 1) := by decide +kernel
theorem dX9_offered_1 : decode cX9_offered 1 = .ok (.iload_n 1, 1) := by decide +kernel
theorem dX9_offered_2 : decode cX9_offered 2 = .ok (.ifCond .lt 7, 3) := by decide +kernel
theorem dX9_offered_5 : decode cX9_offered 5 = .ok (.iconst 0, 1) := by decide +kernel
theorem dX9_offered_6 : decode cX9_offered 6 = .ok (.goto 4, 3) := by decide +kernel
theorem dX9_offered_9 : decode cX9_offered 9 = .ok (.iconst 1, 1) := by decide +kernel
theorem dX9_offered_10 : decode cX9_offered 10 = .ok (.invokevirtual 104, 3) := by decide +kernel
theorem dX9_offered_13 : decode cX9_offered 13 = .ok (.ifCond .eq 11, 3) := by decide +kernel
theorem dX9_offered_16 : decode cX9_offered 16 = .ok (.aload_n 0, 1) := by decide +kernel
theorem dX9_offered_17 : decode cX9_offered 17 = .ok (.getfield 53, 3) := by decide +kernel
theorem dX9_offered_20 : decode cX9_offered 20 = .ok (.iconst (-1), 1) := by decide +kernel
theorem dX9_offered_21 : decode cX9_offered 21 = .ok (.if_icmp .ne 16, 3) := by decide +kernel
theorem dX9_offered_24 : decode cX9_offered 24 = .ok (.aload_n 0, 1) := by decide +kernel
theorem dX9_offered_25 : decode cX9_offered 25 = .ok (.getfield 94, 3) := by decide +kernel
theorem dX9_offered_28 : decode cX9_offered 28 = .ok (.ifCond .ne 7, 3) := by decide +kernel
theorem dX9_offered_31 : decode cX9_offered 31 = .ok (.iconst (-1), 1) := by decide +kernel
theorem dX9_offered_32 : decode cX9_offered 32 = .ok (.goto 4, 3) := by decide +kernel
theorem dX9_offered_35 : decode cX9_offered 35 = .ok (.iconst 0, 1) := by decide +kernel
theorem dX9_offered_36 : decode cX9_offered 36 = .ok (.ireturn, 1) := by decide +kernel
theorem dX9_offered_37 : decode cX9_offered 37 = .ok (.aload_n 0, 1) := by decide +kernel
theorem dX9_offered_38 : decode cX9_offered 38 = .ok (.invokevirtual 166, 3) := by decide +kernel
theorem dX9_offered_41 : decode cX9_offered 41 = .ok (.istore_n 2, 1) := by decide +kernel
theorem dX9_offered_42 : decode cX9_offered 42 = .ok (.iload_n 1, 1) := by decide +kernel
theorem dX9_offered_43 : decode cX9_offered 43 = .ok (.aload_n 0, 1) := by decide +kernel
theorem dX9_offered_44 : decode cX9_offered 44 = .ok (.getfield 60, 3) := by decide +kernel
theorem dX9_offered_47 : decode cX9_offered 47 = .ok (.iload_n 2, 1) := by decide +kernel
theorem dX9_offered_48 : decode cX9_offered 48 = .ok (.iaload, 1) := by decide +kernel
theorem dX9_offered_49 : decode cX9_offered 49 = .ok (.if_icmp .ge 17, 3) := by decide +kernel
theorem dX9_offered_52 : decode cX9_offered 52 = .ok (.aload_n 0, 1) := by decide +kernel
theorem dX9_offered_53 : decode cX9_offered 53 = .ok (.getfield 57, 3) := by decide +kernel
theorem dX9_offered_56 : decode cX9_offered 56 = .ok (.bipush 6, 2) := by decide +kernel
theorem dX9_offered_58 : decode cX9_offered 58 = .ok (.iload_n 2, 1) := by decide +kernel
theorem dX9_offered_59 : decode cX9_offered 59 = .ok (.imul, 1) := by decide +kernel
theorem dX9_offered_60 : decode cX9_offered 60 = .ok (.iload_n 1, 1) := by decide +kernel
theorem dX9_offered_61 : decode cX9_offered 61 = .ok (.iadd, 1) := by decide +kernel
theorem dX9_offered_62 : decode cX9_offered 62 = .ok (.iaload, 1) := by decide +kernel
theorem dX9_offered_63 : decode cX9_offered 63 = .ok (.goto 4, 3) := by decide +kernel
theorem dX9_offered_66 : decode cX9_offered 66 = .ok (.iconst (-1), 1) := by decide +kernel
theorem dX9_offered_67 : decode cX9_offered 67 = .ok (.ireturn, 1) := by decide +kernel
set_option maxRecDepth 20000 in
theorem ggX9_pick_X9_packBefore : GoodIn wsX9_pick wsX9_packBefore := goodIn_r _ [12, 1, 6, 5, 18, 19, 20, 21, 22, 23, 24, 25, 26, 27, 28, 29, 30, 31, 32, 33, 34, 35, 36, 37, 38, 39, 40, 41, 42, 43, 44, 45, 46, 47, 48, 49, 50, 51, 52, 53, 54] (by decide +kernel) (by decide +kernel)
set_option maxRecDepth 20000 in
theorem gX9_pick_X9_packBefore : GoodIn wsX9_pick (wsV RX9 166 RX9 yX9_packBefore wsX9_packBefore) := goodIn_app (goodIn_of _ (by decide +kernel)) ggX9_pick_X9_packBefore
set_option maxRecDepth 20000 in
theorem ggX9_pick_X9_goesWell : GoodIn wsX9_pick wsX9_goesWell := goodIn_r _ [16, 17, 18, 19, 20, 21, 22, 23, 24, 25, 26, 27, 28, 29, 30, 31, 32, 33, 34, 35, 36, 37, 38, 39, 40, 41, 42, 43, 44, 45, 46, 47, 48, 49, 50, 51, 52, 53, 54] (by decide +kernel) (by decide +kernel)
set_option maxRecDepth 20000 in
theorem gX9_pick_X9_goesWell : GoodIn wsX9_pick (wsV RX9 104 RX9 yX9_goesWell wsX9_goesWell) := goodIn_app (goodIn_of _ (by decide +kernel)) ggX9_pick_X9_goesWell
theorem dX9_pick_0 : decode cX9_pick 0 = .ok (.iload_n 1, 1) := by decide +kernel
theorem dX9_pick_1 : decode cX9_pick 1 = .ok (.ifCond .lt 28, 3) := by decide +kernel
theorem dX9_pick_4 : decode cX9_pick 4 = .ok (.aload_n 0, 1) := by decide +kernel
theorem dX9_pick_5 : decode cX9_pick 5 = .ok (.getfield 53, 3) := by decide +kernel
theorem dX9_pick_8 : decode cX9_pick 8 = .ok (.iconst (-1), 1) := by decide +kernel
theorem dX9_pick_9 : decode cX9_pick 9 = .ok (.if_icmp .eq 16, 3) := by decide +kernel
theorem dX9_pick_12 : decode cX9_pick 12 = .ok (.iload_n 1, 1) := by decide +kernel
theorem dX9_pick_13 : decode cX9_pick 13 = .ok (.aload_n 0, 1) := by decide +kernel
theorem dX9_pick_14 : decode cX9_pick 14 = .ok (.getfield 60, 3) := by decide +kernel
theorem dX9_pick_17 : decode cX9_pick 17 = .ok (.aload_n 0, 1) := by decide +kernel
theorem dX9_pick_18 : decode cX9_pick 18 = .ok (.invokevirtual 166, 3) := by decide +kernel
theorem dX9_pick_21 : decode cX9_pick 21 = .ok (.iaload, 1) := by decide +kernel
theorem dX9_pick_22 : decode cX9_pick 22 = .ok (.if_icmp .ge 7, 3) := by decide +kernel
theorem dX9_pick_25 : decode cX9_pick 25 = .ok (.iconst 1, 1) := by decide +kernel
theorem dX9_pick_26 : decode cX9_pick 26 = .ok (.goto 4, 3) := by decide +kernel
theorem dX9_pick_29 : decode cX9_pick 29 = .ok (.iconst 0, 1) := by decide +kernel
theorem dX9_pick_30 : decode cX9_pick 30 = .ok (.istore_n 2, 1) := by decide +kernel
theorem dX9_pick_31 : decode cX9_pick 31 = .ok (.aload_n 0, 1) := by decide +kernel
theorem dX9_pick_32 : decode cX9_pick 32 = .ok (.iload_n 2, 1) := by decide +kernel
theorem dX9_pick_33 : decode cX9_pick 33 = .ok (.ifCond .ne 7, 3) := by decide +kernel
theorem dX9_pick_36 : decode cX9_pick 36 = .ok (.iconst 1, 1) := by decide +kernel
theorem dX9_pick_37 : decode cX9_pick 37 = .ok (.goto 16, 3) := by decide +kernel
theorem dX9_pick_40 : decode cX9_pick 40 = .ok (.aload_n 0, 1) := by decide +kernel
theorem dX9_pick_41 : decode cX9_pick 41 = .ok (.getfield 53, 3) := by decide +kernel
theorem dX9_pick_44 : decode cX9_pick 44 = .ok (.iconst (-1), 1) := by decide +kernel
theorem dX9_pick_45 : decode cX9_pick 45 = .ok (.if_icmp .ne 7, 3) := by decide +kernel
theorem dX9_pick_48 : decode cX9_pick 48 = .ok (.iconst 2, 1) := by decide +kernel
theorem dX9_pick_49 : decode cX9_pick 49 = .ok (.goto 4, 3) := by decide +kernel
theorem dX9_pick_52 : decode cX9_pick 52 = .ok (.iconst 0, 1) := by decide +kernel
theorem dX9_pick_53 : decode cX9_pick 53 = .ok (.invokevirtual 104, 3) := by decide +kernel
theorem dX9_pick_56 : decode cX9_pick 56 = .ok (.ifCond .ne 5, 3) := by decide +kernel
theorem dX9_pick_59 : decode cX9_pick 59 = .ok (.iconst 0, 1) := by decide +kernel
theorem dX9_pick_60 : decode cX9_pick 60 = .ok (.ireturn, 1) := by decide +kernel
theorem dX9_pick_61 : decode cX9_pick 61 = .ok (.aload_n 0, 1) := by decide +kernel
theorem dX9_pick_62 : decode cX9_pick 62 = .ok (.invokevirtual 166, 3) := by decide +kernel
theorem dX9_pick_65 : decode cX9_pick 65 = .ok (.istore_n 3, 1) := by decide +kernel
theorem dX9_pick_66 : decode cX9_pick 66 = .ok (.aload_n 0, 1) := by decide +kernel
theorem dX9_pick_67 : decode cX9_pick 67 = .ok (.getfield 19, 3) := by decide +kernel
theorem dX9_pick_70 : decode cX9_pick 70 = .ok (.bipush 20, 2) := by decide +kernel
theorem dX9_pick_72 : decode cX9_pick 72 = .ok (.aload_n 0, 1) := by decide +kernel
theorem dX9_pick_73 : decode cX9_pick 73 = .ok (.getfield 53, 3) := by decide +kernel
theorem dX9_pick_76 : decode cX9_pick 76 = .ok (.imul, 1) := by decide +kernel
theorem dX9_pick_77 : decode cX9_pick 77 = .ok (.aload_n 0, 1) := by decide +kernel
theorem dX9_pick_78 : decode cX9_pick 78 = .ok (.getfield 57, 3) := by decide +kernel
theorem dX9_pick_81 : decode cX9_pick 81 = .ok (.bipush 6, 2) := by decide +kernel
theorem dX9_pick_83 : decode cX9_pick 83 = .ok (.iload_n 3, 1) := by decide +kernel
theorem dX9_pick_84 : decode cX9_pick 84 = .ok (.imul, 1) := by decide +kernel
theorem dX9_pick_85 : decode cX9_pick 85 = .ok (.iload_n 1, 1) := by decide +kernel
theorem dX9_pick_86 : decode cX9_pick 86 = .ok (.iadd, 1) := by decide +kernel
theorem dX9_pick_87 : decode cX9_pick 87 = .ok (.iaload, 1) := by decide +kernel
theorem dX9_pick_88 : decode cX9_pick 88 = .ok (.iadd, 1) := by decide +kernel
theorem dX9_pick_89 : decode cX9_pick 89 = .ok (.dup2, 1) := by decide +kernel
theorem dX9_pick_90 : decode cX9_pick 90 = .ok (.iaload, 1) := by decide +kernel
theorem dX9_pick_91 : decode cX9_pick 91 = .ok (.iconst 1, 1) := by decide +kernel
theorem dX9_pick_92 : decode cX9_pick 92 = .ok (.iadd, 1) := by decide +kernel
theorem dX9_pick_93 : decode cX9_pick 93 = .ok (.iastore, 1) := by decide +kernel
theorem dX9_pick_94 : decode cX9_pick 94 = .ok (.aload_n 0, 1) := by decide +kernel
theorem dX9_pick_95 : decode cX9_pick 95 = .ok (.getfield 60, 3) := by decide +kernel
theorem dX9_pick_98 : decode cX9_pick 98 = .ok (.iload_n 3, 1) := by decide +kernel
theorem dX9_pick_99 : decode cX9_pick 99 = .ok (.dup2, 1) := by decide +kernel
theorem dX9_pick_100 : decode cX9_pick 100 = .ok (.iaload, 1) := by decide +kernel
theorem dX9_pick_101 : decode cX9_pick 101 = .ok (.iconst 1, 1) := by decide +kernel
theorem dX9_pick_102 : decode cX9_pick 102 = .ok (.isub, 1) := by decide +kernel
theorem dX9_pick_103 : decode cX9_pick 103 = .ok (.iastore, 1) := by decide +kernel
theorem dX9_pick_104 : decode cX9_pick 104 = .ok (.iload_n 1, 1) := by decide +kernel
theorem dX9_pick_105 : decode cX9_pick 105 = .ok (.istore 4, 2) := by decide +kernel
theorem dX9_pick_107 : decode cX9_pick 107 = .ok (.iload 4, 2) := by decide +kernel
theorem dX9_pick_109 : decode cX9_pick 109 = .ok (.aload_n 0, 1) := by decide +kernel
theorem dX9_pick_110 : decode cX9_pick 110 = .ok (.getfield 60, 3) := by decide +kernel
theorem dX9_pick_113 : decode cX9_pick 113 = .ok (.iload_n 3, 1) := by decide +kernel
theorem dX9_pick_114 : decode cX9_pick 114 = .ok (.iaload, 1) := by decide +kernel
theorem dX9_pick_115 : decode cX9_pick 115 = .ok (.if_icmp .ge 35, 3) := by decide +kernel
theorem dX9_pick_118 : decode cX9_pick 118 = .ok (.aload_n 0, 1) := by decide +kernel
theorem dX9_pick_119 : decode cX9_pick 119 = .ok (.getfield 57, 3) := by decide +kernel
theorem dX9_pick_122 : decode cX9_pick 122 = .ok (.bipush 6, 2) := by decide +kernel
theorem dX9_pick_124 : decode cX9_pick 124 = .ok (.iload_n 3, 1) := by decide +kernel
theorem dX9_pick_125 : decode cX9_pick 125 = .ok (.imul, 1) := by decide +kernel
theorem dX9_pick_126 : decode cX9_pick 126 = .ok (.iload 4, 2) := by decide +kernel
theorem dX9_pick_128 : decode cX9_pick 128 = .ok (.iadd, 1) := by decide +kernel
theorem dX9_pick_129 : decode cX9_pick 129 = .ok (.aload_n 0, 1) := by decide +kernel
theorem dX9_pick_130 : decode cX9_pick 130 = .ok (.getfield 57, 3) := by decide +kernel
theorem dX9_pick_133 : decode cX9_pick 133 = .ok (.bipush 6, 2) := by decide +kernel
theorem dX9_pick_135 : decode cX9_pick 135 = .ok (.iload_n 3, 1) := by decide +kernel
theorem dX9_pick_136 : decode cX9_pick 136 = .ok (.imul, 1) := by decide +kernel
theorem dX9_pick_137 : decode cX9_pick 137 = .ok (.iload 4, 2) := by decide +kernel
theorem dX9_pick_139 : decode cX9_pick 139 = .ok (.iadd, 1) := by decide +kernel
theorem dX9_pick_140 : decode cX9_pick 140 = .ok (.iconst 1, 1) := by decide +kernel
theorem dX9_pick_141 : decode cX9_pick 141 = .ok (.iadd, 1) := by decide +kernel
theorem dX9_pick_142 : decode cX9_pick 142 = .ok (.iaload, 1) := by decide +kernel
theorem dX9_pick_143 : decode cX9_pick 143 = .ok (.iastore, 1) := by decide +kernel
theorem dX9_pick_144 : decode cX9_pick 144 = .ok (.iinc 4 1, 3) := by decide +kernel
theorem dX9_pick_147 : decode cX9_pick 147 = .ok (.goto (-40), 3) := by decide +kernel
theorem dX9_pick_150 : decode cX9_pick 150 = .ok (.aload_n 0, 1) := by decide +kernel
theorem dX9_pick_151 : decode cX9_pick 151 = .ok (.dup, 1) := by decide +kernel
theorem dX9_pick_152 : decode cX9_pick 152 = .ok (.getfield 53, 3) := by decide +kernel
theorem dX9_pick_155 : decode cX9_pick 155 = .ok (.iconst 1, 1) := by decide +kernel
theorem dX9_pick_156 : decode cX9_pick 156 = .ok (.iadd, 1) := by decide +kernel
theorem dX9_pick_157 : decode cX9_pick 157 = .ok (.putfield 53, 3) := by decide +kernel
theorem dX9_pick_160 : decode cX9_pick 160 = .ok (.aload_n 0, 1) := by decide +kernel
theorem dX9_pick_161 : decode cX9_pick 161 = .ok (.getfield 53, 3) := by decide +kernel
theorem dX9_pick_164 : decode cX9_pick 164 = .ok (.aload_n 0, 1) := by decide +kernel
theorem dX9_pick_165 : decode cX9_pick 165 = .ok (.getfield 157, 3) := by decide +kernel
theorem dX9_pick_168 : decode cX9_pick 168 = .ok (.if_icmp .ne 33, 3) := by decide +kernel
theorem dX9_pick_171 : decode cX9_pick 171 = .ok (.aload_n 0, 1) := by decide +kernel
theorem dX9_pick_172 : decode cX9_pick 172 = .ok (.dup, 1) := by decide +kernel
theorem dX9_pick_173 : decode cX9_pick 173 = .ok (.getfield 163, 3) := by decide +kernel
theorem dX9_pick_176 : decode cX9_pick 176 = .ok (.iconst 1, 1) := by decide +kernel
theorem dX9_pick_177 : decode cX9_pick 177 = .ok (.iadd, 1) := by decide +kernel
theorem dX9_pick_178 : decode cX9_pick 178 = .ok (.putfield 163, 3) := by decide +kernel
theorem dX9_pick_181 : decode cX9_pick 181 = .ok (.aload_n 0, 1) := by decide +kernel
theorem dX9_pick_182 : decode cX9_pick 182 = .ok (.aload_n 0, 1) := by decide +kernel
theorem dX9_pick_183 : decode cX9_pick 183 = .ok (.getfield 163, 3) := by decide +kernel
theorem dX9_pick_186 : decode cX9_pick 186 = .ok (.aload_n 0, 1) := by decide +kernel
theorem dX9_pick_187 : decode cX9_pick 187 = .ok (.getfield 160, 3) := by decide +kernel
theorem dX9_pick_190 : decode cX9_pick 190 = .ok (.if_icmp .ne 7, 3) := by decide +kernel
theorem dX9_pick_193 : decode cX9_pick 193 = .ok (.iconst (-1), 1) := by decide +kernel
theorem dX9_pick_194 : decode cX9_pick 194 = .ok (.goto 4, 3) := by decide +kernel
theorem dX9_pick_197 : decode cX9_pick 197 = .ok (.iconst 0, 1) := by decide +kernel
theorem dX9_pick_198 : decode cX9_pick 198 = .ok (.putfield 53, 3) := by decide +kernel
theorem dX9_pick_201 : decode cX9_pick 201 = .ok (.aload_n 0, 1) := by decide +kernel
theorem dX9_pick_202 : decode cX9_pick 202 = .ok (.getfield 53, 3) := by decide +kernel
theorem dX9_pick_205 : decode cX9_pick 205 = .ok (.ireturn, 1) := by decide +kernel
set_option maxRecDepth 20000 in
theorem ggX9_wish_X9_isPlayer : GoodIn wsX9_wish wsX9_isPlayer := goodIn_r _ [6, 7, 8, 5, 9] (by decide +kernel) (by decide +kernel)
set_option maxRecDepth 20000 in
theorem gX9_wish_X9_isPlayer : GoodIn wsX9_wish (va_wsS RX9 118 yX9_isPlayer wsX9_isPlayer) := goodIn_app (goodIn_of _ (by decide +kernel)) ggX9_wish_X9_isPlayer
set_option maxRecDepth 20000 in
theorem ggX9_wish_X9_isKind : GoodIn wsX9_wish wsX9_isKind := goodIn_r _ [13, 14, 7, 8, 5, 9, 20, 21, 22, 23, 24, 25, 26, 27, 28, 29, 30, 31, 32, 33, 34, 35, 36, 37, 38, 39, 40, 41, 42, 43, 44, 45, 46, 47, 48, 49, 50, 51, 52, 53, 54, 55, 56] (by decide +kernel) (by decide +kernel)
set_option maxRecDepth 20000 in
theorem gX9_wish_X9_isKind : GoodIn wsX9_wish (wsV RX9 108 RX9 yX9_isKind wsX9_isKind) := goodIn_app (goodIn_of _ (by decide +kernel)) ggX9_wish_X9_isKind
set_option maxRecDepth 20000 in
theorem ggX9_wish_X9_goesWell : GoodIn wsX9_wish wsX9_goesWell := goodIn_r _ [18, 19, 20, 21, 22, 23, 24, 25, 26, 27, 28, 29, 30, 31, 32, 33, 34, 35, 36, 37, 38, 39, 40, 41, 42, 43, 44, 45, 46, 47, 48, 49, 50, 51, 52, 53, 54, 55, 56] (by decide +kernel) (by decide +kernel)
set_option maxRecDepth 20000 in
theorem gX9_wish_X9_goesWell : GoodIn wsX9_wish (wsV RX9 104 RX9 yX9_goesWell wsX9_goesWell) := goodIn_app (goodIn_of _ (by decide +kernel)) ggX9_wish_X9_goesWell
theorem dX9_wish_0 : decode cX9_wish 0 = .ok (.iload_n 1, 1) := by decide +kernel
theorem dX9_wish_1 : decode cX9_wish 1 = .ok (.invokestatic 118, 3) := by decide +kernel
theorem dX9_wish_4 : decode cX9_wish 4 = .ok (.ifCond .eq 23, 3) := by decide +kernel
theorem dX9_wish_7 : decode cX9_wish 7 = .ok (.aload_n 0, 1) := by decide +kernel
theorem dX9_wish_8 : decode cX9_wish 8 = .ok (.iload_n 2, 1) := by decide +kernel
theorem dX9_wish_9 : decode cX9_wish 9 = .ok (.invokevirtual 108, 3) := by decide +kernel
theorem dX9_wish_12 : decode cX9_wish 12 = .ok (.ifCond .eq 15, 3) := by decide +kernel
theorem dX9_wish_15 : decode cX9_wish 15 = .ok (.aload_n 0, 1) := by decide +kernel
theorem dX9_wish_16 : decode cX9_wish 16 = .ok (.iload_n 3, 1) := by decide +kernel
theorem dX9_wish_17 : decode cX9_wish 17 = .ok (.invokevirtual 108, 3) := by decide +kernel
theorem dX9_wish_20 : decode cX9_wish 20 = .ok (.ifCond .eq 7, 3) := by decide +kernel
theorem dX9_wish_23 : decode cX9_wish 23 = .ok (.iconst 1, 1) := by decide +kernel
theorem dX9_wish_24 : decode cX9_wish 24 = .ok (.goto 4, 3) := by decide +kernel
theorem dX9_wish_27 : decode cX9_wish 27 = .ok (.iconst 0, 1) := by decide +kernel
theorem dX9_wish_28 : decode cX9_wish 28 = .ok (.istore 4, 2) := by decide +kernel
theorem dX9_wish_30 : decode cX9_wish 30 = .ok (.aload_n 0, 1) := by decide +kernel
theorem dX9_wish_31 : decode cX9_wish 31 = .ok (.iload 4, 2) := by decide +kernel
theorem dX9_wish_33 : decode cX9_wish 33 = .ok (.ifCond .ne 7, 3) := by decide +kernel
theorem dX9_wish_36 : decode cX9_wish 36 = .ok (.iconst 1, 1) := by decide +kernel
theorem dX9_wish_37 : decode cX9_wish 37 = .ok (.goto 13, 3) := by decide +kernel
theorem dX9_wish_40 : decode cX9_wish 40 = .ok (.iload_n 2, 1) := by decide +kernel
theorem dX9_wish_41 : decode cX9_wish 41 = .ok (.iload_n 3, 1) := by decide +kernel
theorem dX9_wish_42 : decode cX9_wish 42 = .ok (.if_icmp .ne 7, 3) := by decide +kernel
theorem dX9_wish_45 : decode cX9_wish 45 = .ok (.iconst 2, 1) := by decide +kernel
theorem dX9_wish_46 : decode cX9_wish 46 = .ok (.goto 4, 3) := by decide +kernel
theorem dX9_wish_49 : decode cX9_wish 49 = .ok (.iconst 0, 1) := by decide +kernel
theorem dX9_wish_50 : decode cX9_wish 50 = .ok (.invokevirtual 104, 3) := by decide +kernel
theorem dX9_wish_53 : decode cX9_wish 53 = .ok (.ifCond .eq 17, 3) := by decide +kernel
theorem dX9_wish_56 : decode cX9_wish 56 = .ok (.aload_n 0, 1) := by decide +kernel
theorem dX9_wish_57 : decode cX9_wish 57 = .ok (.getfield 63, 3) := by decide +kernel
theorem dX9_wish_60 : decode cX9_wish 60 = .ok (.iload_n 1, 1) := by decide +kernel
theorem dX9_wish_61 : decode cX9_wish 61 = .ok (.iload_n 2, 1) := by decide +kernel
theorem dX9_wish_62 : decode cX9_wish 62 = .ok (.iastore, 1) := by decide +kernel
theorem dX9_wish_63 : decode cX9_wish 63 = .ok (.aload_n 0, 1) := by decide +kernel
theorem dX9_wish_64 : decode cX9_wish 64 = .ok (.getfield 66, 3) := by decide +kernel
theorem dX9_wish_67 : decode cX9_wish 67 = .ok (.iload_n 1, 1) := by decide +kernel
theorem dX9_wish_68 : decode cX9_wish 68 = .ok (.iload_n 3, 1) := by decide +kernel
theorem dX9_wish_69 : decode cX9_wish 69 = .ok (.iastore, 1) := by decide +kernel
theorem dX9_wish_70 : decode cX9_wish 70 = .ok (.return_, 1) := by decide +kernel
theorem dX9_isRing_0 : decode cX9_isRing 0 = .ok (.iconst 0, 1) := by decide +kernel
theorem dX9_isRing_1 : decode cX9_isRing 1 = .ok (.istore_n 2, 1) := by decide +kernel
theorem dX9_isRing_2 : decode cX9_isRing 2 = .ok (.iconst 1, 1) := by decide +kernel
theorem dX9_isRing_3 : decode cX9_isRing 3 = .ok (.istore_n 3, 1) := by decide +kernel
theorem dX9_isRing_4 : decode cX9_isRing 4 = .ok (.iconst 0, 1) := by decide +kernel
theorem dX9_isRing_5 : decode cX9_isRing 5 = .ok (.istore 4, 2) := by decide +kernel
theorem dX9_isRing_7 : decode cX9_isRing 7 = .ok (.iload 4, 2) := by decide +kernel
theorem dX9_isRing_9 : decode cX9_isRing 9 = .ok (.iload_n 1, 1) := by decide +kernel
theorem dX9_isRing_10 : decode cX9_isRing 10 = .ok (.if_icmp .ge 128, 3) := by decide +kernel
theorem dX9_isRing_13 : decode cX9_isRing 13 = .ok (.iload_n 3, 1) := by decide +kernel
theorem dX9_isRing_14 : decode cX9_isRing 14 = .ok (.ifCond .eq 124, 3) := by decide +kernel
theorem dX9_isRing_17 : decode cX9_isRing 17 = .ok (.aload_n 0, 1) := by decide +kernel
theorem dX9_isRing_18 : decode cX9_isRing 18 = .ok (.getfield 88, 3) := by decide +kernel
theorem dX9_isRing_21 : decode cX9_isRing 21 = .ok (.iload 4, 2) := by decide +kernel
theorem dX9_isRing_23 : decode cX9_isRing 23 = .ok (.iaload, 1) := by decide +kernel
theorem dX9_isRing_24 : decode cX9_isRing 24 = .ok (.istore 5, 2) := by decide +kernel
theorem dX9_isRing_26 : decode cX9_isRing 26 = .ok (.aload_n 0, 1) := by decide +kernel
theorem dX9_isRing_27 : decode cX9_isRing 27 = .ok (.getfield 88, 3) := by decide +kernel
theorem dX9_isRing_30 : decode cX9_isRing 30 = .ok (.iload 4, 2) := by decide +kernel
theorem dX9_isRing_32 : decode cX9_isRing 32 = .ok (.iconst 1, 1) := by decide +kernel
theorem dX9_isRing_33 : decode cX9_isRing 33 = .ok (.iadd, 1) := by decide +kernel
theorem dX9_isRing_34 : decode cX9_isRing 34 = .ok (.iload_n 1, 1) := by decide +kernel
theorem dX9_isRing_35 : decode cX9_isRing 35 = .ok (.irem, 1) := by decide +kernel
theorem dX9_isRing_36 : decode cX9_isRing 36 = .ok (.iaload, 1) := by decide +kernel
theorem dX9_isRing_37 : decode cX9_isRing 37 = .ok (.istore 6, 2) := by decide +kernel
theorem dX9_isRing_39 : decode cX9_isRing 39 = .ok (.iload_n 2, 1) := by decide +kernel
theorem dX9_isRing_40 : decode cX9_isRing 40 = .ok (.iload 5, 2) := by decide +kernel
theorem dX9_isRing_42 : decode cX9_isRing 42 = .ok (.ishr, 1) := by decide +kernel
theorem dX9_isRing_43 : decode cX9_isRing 43 = .ok (.iconst 1, 1) := by decide +kernel
theorem dX9_isRing_44 : decode cX9_isRing 44 = .ok (.iand, 1) := by decide +kernel
theorem dX9_isRing_45 : decode cX9_isRing 45 = .ok (.ifCond .ne 78, 3) := by decide +kernel
theorem dX9_isRing_48 : decode cX9_isRing 48 = .ok (.iload 5, 2) := by decide +kernel
theorem dX9_isRing_50 : decode cX9_isRing 50 = .ok (.aload_n 0, 1) := by decide +kernel
theorem dX9_isRing_51 : decode cX9_isRing 51 = .ok (.getfield 88, 3) := by decide +kernel
theorem dX9_isRing_54 : decode cX9_isRing 54 = .ok (.iconst 0, 1) := by decide +kernel
theorem dX9_isRing_55 : decode cX9_isRing 55 = .ok (.iaload, 1) := by decide +kernel
theorem dX9_isRing_56 : decode cX9_isRing 56 = .ok (.if_icmp .lt 67, 3) := by decide +kernel
theorem dX9_isRing_59 : decode cX9_isRing 59 = .ok (.aload_n 0, 1) := by decide +kernel
theorem dX9_isRing_60 : decode cX9_isRing 60 = .ok (.getfield 63, 3) := by decide +kernel
theorem dX9_isRing_63 : decode cX9_isRing 63 = .ok (.iload 5, 2) := by decide +kernel
theorem dX9_isRing_65 : decode cX9_isRing 65 = .ok (.iaload, 1) := by decide +kernel
theorem dX9_isRing_66 : decode cX9_isRing 66 = .ok (.iconst (-1), 1) := by decide +kernel
theorem dX9_isRing_67 : decode cX9_isRing 67 = .ok (.if_icmp .eq 56, 3) := by decide +kernel
theorem dX9_isRing_70 : decode cX9_isRing 70 = .ok (.aload_n 0, 1) := by decide +kernel
theorem dX9_isRing_71 : decode cX9_isRing 71 = .ok (.getfield 63, 3) := by decide +kernel
theorem dX9_isRing_74 : decode cX9_isRing 74 = .ok (.iload 6, 2) := by decide +kernel
theorem dX9_isRing_76 : decode cX9_isRing 76 = .ok (.iaload, 1) := by decide +kernel
theorem dX9_isRing_77 : decode cX9_isRing 77 = .ok (.iconst (-1), 1) := by decide +kernel
theorem dX9_isRing_78 : decode cX9_isRing 78 = .ok (.if_icmp .eq 45, 3) := by decide +kernel
theorem dX9_isRing_81 : decode cX9_isRing 81 = .ok (.aload_n 0, 1) := by decide +kernel
theorem dX9_isRing_82 : decode cX9_isRing 82 = .ok (.getfield 63, 3) := by decide +kernel
theorem dX9_isRing_85 : decode cX9_isRing 85 = .ok (.iload 5, 2) := by decide +kernel
theorem dX9_isRing_87 : decode cX9_isRing 87 = .ok (.iaload, 1) := by decide +kernel
theorem dX9_isRing_88 : decode cX9_isRing 88 = .ok (.aload_n 0, 1) := by decide +kernel
theorem dX9_isRing_89 : decode cX9_isRing 89 = .ok (.getfield 66, 3) := by decide +kernel
theorem dX9_isRing_92 : decode cX9_isRing 92 = .ok (.iload 6, 2) := by decide +kernel
theorem dX9_isRing_94 : decode cX9_isRing 94 = .ok (.iaload, 1) := by decide +kernel
theorem dX9_isRing_95 : decode cX9_isRing 95 = .ok (.if_icmp .ne 28, 3) := by decide +kernel
theorem dX9_isRing_98 : decode cX9_isRing 98 = .ok (.aload_n 0, 1) := by decide +kernel
theorem dX9_isRing_99 : decode cX9_isRing 99 = .ok (.getfield 19, 3) := by decide +kernel
theorem dX9_isRing_102 : decode cX9_isRing 102 = .ok (.bipush 20, 2) := by decide +kernel
theorem dX9_isRing_104 : decode cX9_isRing 104 = .ok (.iload 5, 2) := by decide +kernel
theorem dX9_isRing_106 : decode cX9_isRing 106 = .ok (.imul, 1) := by decide +kernel
theorem dX9_isRing_107 : decode cX9_isRing 107 = .ok (.aload_n 0, 1) := by decide +kernel
theorem dX9_isRing_108 : decode cX9_isRing 108 = .ok (.getfield 63, 3) := by decide +kernel
theorem dX9_isRing_111 : decode cX9_isRing 111 = .ok (.iload 5, 2) := by decide +kernel
theorem dX9_isRing_113 : decode cX9_isRing 113 = .ok (.iaload, 1) := by decide +kernel
theorem dX9_isRing_114 : decode cX9_isRing 114 = .ok (.iadd, 1) := by decide +kernel
theorem dX9_isRing_115 : decode cX9_isRing 115 = .ok (.iaload, 1) := by decide +kernel
theorem dX9_isRing_116 : decode cX9_isRing 116 = .ok (.ifCond .le 7, 3) := by decide +kernel
theorem dX9_isRing_119 : decode cX9_isRing 119 = .ok (.iconst 1, 1) := by decide +kernel
theorem dX9_isRing_120 : decode cX9_isRing 120 = .ok (.goto 4, 3) := by decide +kernel
theorem dX9_isRing_123 : decode cX9_isRing 123 = .ok (.iconst 0, 1) := by decide +kernel
theorem dX9_isRing_124 : decode cX9_isRing 124 = .ok (.istore_n 3, 1) := by decide +kernel
theorem dX9_isRing_125 : decode cX9_isRing 125 = .ok (.iload_n 2, 1) := by decide +kernel
theorem dX9_isRing_126 : decode cX9_isRing 126 = .ok (.iconst 1, 1) := by decide +kernel
theorem dX9_isRing_127 : decode cX9_isRing 127 = .ok (.iload 5, 2) := by decide +kernel
theorem dX9_isRing_129 : decode cX9_isRing 129 = .ok (.ishl, 1) := by decide +kernel
theorem dX9_isRing_130 : decode cX9_isRing 130 = .ok (.ior, 1) := by decide +kernel
theorem dX9_isRing_131 : decode cX9_isRing 131 = .ok (.istore_n 2, 1) := by decide +kernel
theorem dX9_isRing_132 : decode cX9_isRing 132 = .ok (.iinc 4 1, 3) := by decide +kernel
theorem dX9_isRing_135 : decode cX9_isRing 135 = .ok (.goto (-128), 3) := by decide +kernel
theorem dX9_isRing_138 : decode cX9_isRing 138 = .ok (.iload_n 3, 1) := by decide +kernel
theorem dX9_isRing_139 : decode cX9_isRing 139 = .ok (.ireturn, 1) := by decide +kernel
set_option maxRecDepth 20000 in
theorem ggX9_findRing_X9_isRing : GoodIn wsX9_findRing wsX9_isRing := goodIn_r _ [7, 2, 8, 9, 10, 11, 12, 13, 14, 15, 16, 17, 18, 19, 20, 21, 22, 23, 24, 25, 26, 27, 28, 29, 30, 31, 32, 33, 34, 35, 36, 37, 38, 39, 40, 41, 42, 43, 44, 45, 46, 47] (by decide +kernel) (by decide +kernel)
set_option maxRecDepth 20000 in
theorem gX9_findRing_X9_isRing : GoodIn wsX9_findRing (wsV RX9 173 RX9 yX9_isRing wsX9_isRing) := goodIn_app (goodIn_of _ (by decide +kernel)) ggX9_findRing_X9_isRing
theorem dX9_findRing_0 : decode cX9_findRing 0 = .ok (.aload_n 0, 1) := by decide +kernel
theorem dX9_findRing_1 : decode cX9_findRing 1 = .ok (.iconst 0, 1) := by decide +kernel
theorem dX9_findRing_2 : decode cX9_findRing 2 = .ok (.putfield 170, 3) := by decide +kernel
theorem dX9_findRing_5 : decode cX9_findRing 5 = .ok (.bipush 6, 2) := by decide +kernel
theorem dX9_findRing_7 : decode cX9_findRing 7 = .ok (.istore_n 1, 1) := by decide +kernel
theorem dX9_findRing_8 : decode cX9_findRing 8 = .ok (.iconst 2, 1) := by decide +kernel
theorem dX9_findRing_9 : decode cX9_findRing 9 = .ok (.istore_n 2, 1) := by decide +kernel
theorem dX9_findRing_10 : decode cX9_findRing 10 = .ok (.iload_n 2, 1) := by decide +kernel
theorem dX9_findRing_11 : decode cX9_findRing 11 = .ok (.bipush 6, 2) := by decide +kernel
theorem dX9_findRing_13 : decode cX9_findRing 13 = .ok (.if_icmp .gt 96, 3) := by decide +kernel
theorem dX9_findRing_16 : decode cX9_findRing 16 = .ok (.aload_n 0, 1) := by decide +kernel
theorem dX9_findRing_17 : decode cX9_findRing 17 = .ok (.getfield 170, 3) := by decide +kernel
theorem dX9_findRing_20 : decode cX9_findRing 20 = .ok (.ifCond .ne 89, 3) := by decide +kernel
theorem dX9_findRing_23 : decode cX9_findRing 23 = .ok (.iload_n 1, 1) := by decide +kernel
theorem dX9_findRing_24 : decode cX9_findRing 24 = .ok (.bipush 6, 2) := by decide +kernel
theorem dX9_findRing_26 : decode cX9_findRing 26 = .ok (.imul, 1) := by decide +kernel
theorem dX9_findRing_27 : decode cX9_findRing 27 = .ok (.istore_n 1, 1) := by decide +kernel
theorem dX9_findRing_28 : decode cX9_findRing 28 = .ok (.iconst 0, 1) := by decide +kernel
theorem dX9_findRing_29 : decode cX9_findRing 29 = .ok (.istore_n 3, 1) := by decide +kernel
theorem dX9_findRing_30 : decode cX9_findRing 30 = .ok (.iload_n 3, 1) := by decide +kernel
theorem dX9_findRing_31 : decode cX9_findRing 31 = .ok (.iload_n 1, 1) := by decide +kernel
theorem dX9_findRing_32 : decode cX9_findRing 32 = .ok (.if_icmp .ge 71, 3) := by decide +kernel
theorem dX9_findRing_35 : decode cX9_findRing 35 = .ok (.aload_n 0, 1) := by decide +kernel
theorem dX9_findRing_36 : decode cX9_findRing 36 = .ok (.getfield 170, 3) := by decide +kernel
theorem dX9_findRing_39 : decode cX9_findRing 39 = .ok (.ifCond .ne 64, 3) := by decide +kernel
theorem dX9_findRing_42 : decode cX9_findRing 42 = .ok (.iload_n 3, 1) := by decide +kernel
theorem dX9_findRing_43 : decode cX9_findRing 43 = .ok (.istore 4, 2) := by decide +kernel
theorem dX9_findRing_45 : decode cX9_findRing 45 = .ok (.iload_n 2, 1) := by decide +kernel
theorem dX9_findRing_46 : decode cX9_findRing 46 = .ok (.iconst 1, 1) := by decide +kernel
theorem dX9_findRing_47 : decode cX9_findRing 47 = .ok (.isub, 1) := by decide +kernel
theorem dX9_findRing_48 : decode cX9_findRing 48 = .ok (.istore 5, 2) := by decide +kernel
theorem dX9_findRing_50 : decode cX9_findRing 50 = .ok (.iload 5, 2) := by decide +kernel
theorem dX9_findRing_52 : decode cX9_findRing 52 = .ok (.ifCond .lt 28, 3) := by decide +kernel
theorem dX9_findRing_55 : decode cX9_findRing 55 = .ok (.aload_n 0, 1) := by decide +kernel
theorem dX9_findRing_56 : decode cX9_findRing 56 = .ok (.getfield 88, 3) := by decide +kernel
theorem dX9_findRing_59 : decode cX9_findRing 59 = .ok (.iload 5, 2) := by decide +kernel
theorem dX9_findRing_61 : decode cX9_findRing 61 = .ok (.iload 4, 2) := by decide +kernel
theorem dX9_findRing_63 : decode cX9_findRing 63 = .ok (.bipush 6, 2) := by decide +kernel
theorem dX9_findRing_65 : decode cX9_findRing 65 = .ok (.irem, 1) := by decide +kernel
theorem dX9_findRing_66 : decode cX9_findRing 66 = .ok (.iastore, 1) := by decide +kernel
theorem dX9_findRing_67 : decode cX9_findRing 67 = .ok (.iload 4, 2) := by decide +kernel
theorem dX9_findRing_69 : decode cX9_findRing 69 = .ok (.bipush 6, 2) := by decide +kernel
theorem dX9_findRing_71 : decode cX9_findRing 71 = .ok (.idiv, 1) := by decide +kernel
theorem dX9_findRing_72 : decode cX9_findRing 72 = .ok (.istore 4, 2) := by decide +kernel
theorem dX9_findRing_74 : decode cX9_findRing 74 = .ok (.iinc 5 (-1), 3) := by decide +kernel
theorem dX9_findRing_77 : decode cX9_findRing 77 = .ok (.goto (-27), 3) := by decide +kernel
theorem dX9_findRing_80 : decode cX9_findRing 80 = .ok (.aload_n 0, 1) := by decide +kernel
theorem dX9_findRing_81 : decode cX9_findRing 81 = .ok (.aload_n 0, 1) := by decide +kernel
theorem dX9_findRing_82 : decode cX9_findRing 82 = .ok (.iload_n 2, 1) := by decide +kernel
theorem dX9_findRing_83 : decode cX9_findRing 83 = .ok (.invokevirtual 173, 3) := by decide +kernel
theorem dX9_findRing_86 : decode cX9_findRing 86 = .ok (.ifCond .eq 7, 3) := by decide +kernel
theorem dX9_findRing_89 : decode cX9_findRing 89 = .ok (.iload_n 2, 1) := by decide +kernel
theorem dX9_findRing_90 : decode cX9_findRing 90 = .ok (.goto 4, 3) := by decide +kernel
theorem dX9_findRing_93 : decode cX9_findRing 93 = .ok (.iconst 0, 1) := by decide +kernel
theorem dX9_findRing_94 : decode cX9_findRing 94 = .ok (.putfield 170, 3) := by decide +kernel
theorem dX9_findRing_97 : decode cX9_findRing 97 = .ok (.iinc 3 1, 3) := by decide +kernel
theorem dX9_findRing_100 : decode cX9_findRing 100 = .ok (.goto (-70), 3) := by decide +kernel
theorem dX9_findRing_103 : decode cX9_findRing 103 = .ok (.iinc 2 1, 3) := by decide +kernel
theorem dX9_findRing_106 : decode cX9_findRing 106 = .ok (.goto (-96), 3) := by decide +kernel
theorem dX9_findRing_109 : decode cX9_findRing 109 = .ok (.return_, 1) := by decide +kernel
set_option maxRecDepth 20000 in
theorem ggX9_ring_X9_in : GoodIn wsX9_ring wsX9_in := goodIn_r _ [6] (by decide +kernel) (by decide +kernel)
set_option maxRecDepth 20000 in
theorem gX9_ring_X9_in : GoodIn wsX9_ring (va_wsS RX9 97 yX9_in wsX9_in) := goodIn_app (goodIn_of _ (by decide +kernel)) ggX9_ring_X9_in
set_option maxRecDepth 20000 in
theorem ggX9_ring_X9_goesWell : GoodIn wsX9_ring wsX9_goesWell := goodIn_r _ [10, 11, 23, 24, 25, 26, 27, 28, 29, 30, 31, 32, 33, 34, 35, 36, 37, 38, 39, 40, 41, 42, 43, 44, 45, 46, 47, 48, 49, 50, 51, 52, 53, 54, 55, 56, 57, 58, 59] (by decide +kernel) (by decide +kernel)
set_option maxRecDepth 20000 in
theorem gX9_ring_X9_goesWell : GoodIn wsX9_ring (wsV RX9 104 RX9 yX9_goesWell wsX9_goesWell) := goodIn_app (goodIn_of _ (by decide +kernel)) ggX9_ring_X9_goesWell
set_option maxRecDepth 20000 in
theorem ggX9_ring_X9_findRing : GoodIn wsX9_ring wsX9_findRing := goodIn_r _ [15, 1, 2, 16, 17, 18, 5, 19, 20, 21, 22, 23, 24, 25, 26, 27, 28, 29, 30, 31, 32, 33, 34, 35, 36, 37, 38, 39, 40, 41, 42, 43, 44, 45, 46, 47, 48, 49, 50, 51, 52, 53, 54, 55, 56, 57, 58, 59] (by decide +kernel) (by decide +kernel)
set_option maxRecDepth 20000 in
theorem gX9_ring_X9_findRing : GoodIn wsX9_ring (wsV RX9 176 RX9 yX9_findRing wsX9_findRing) := goodIn_app (goodIn_of _ (by decide +kernel)) ggX9_ring_X9_findRing
theorem dX9_ring_0 : decode cX9_ring 0 = .ok (.aload_n 0, 1) := by decide +kernel
theorem dX9_ring_1 : decode cX9_ring 1 = .ok (.iload_n 1, 1) := by decide +kernel
theorem dX9_ring_2 : decode cX9_ring 2 = .ok (.iconst 0, 1) := by decide +kernel
theorem dX9_ring_3 : decode cX9_ring 3 = .ok (.iconst 5, 1) := by decide +kernel
theorem dX9_ring_4 : decode cX9_ring 4 = .ok (.invokestatic 97, 3) := by decide +kernel
theorem dX9_ring_7 : decode cX9_ring 7 = .ok (.ifCond .eq 7, 3) := by decide +kernel
theorem dX9_ring_10 : decode cX9_ring 10 = .ok (.iconst 0, 1) := by decide +kernel
theorem dX9_ring_11 : decode cX9_ring 11 = .ok (.goto 4, 3) := by decide +kernel
theorem dX9_ring_14 : decode cX9_ring 14 = .ok (.iconst 1, 1) := by decide +kernel
theorem dX9_ring_15 : decode cX9_ring 15 = .ok (.invokevirtual 104, 3) := by decide +kernel
theorem dX9_ring_18 : decode cX9_ring 18 = .ok (.ifCond .ne 5, 3) := by decide +kernel
theorem dX9_ring_21 : decode cX9_ring 21 = .ok (.iconst 0, 1) := by decide +kernel
theorem dX9_ring_22 : decode cX9_ring 22 = .ok (.ireturn, 1) := by decide +kernel
theorem dX9_ring_23 : decode cX9_ring 23 = .ok (.aload_n 0, 1) := by decide +kernel
theorem dX9_ring_24 : decode cX9_ring 24 = .ok (.invokevirtual 176, 3) := by decide +kernel
theorem dX9_ring_27 : decode cX9_ring 27 = .ok (.iload_n 1, 1) := by decide +kernel
theorem dX9_ring_28 : decode cX9_ring 28 = .ok (.aload_n 0, 1) := by decide +kernel
theorem dX9_ring_29 : decode cX9_ring 29 = .ok (.getfield 170, 3) := by decide +kernel
theorem dX9_ring_32 : decode cX9_ring 32 = .ok (.if_icmp .ge 12, 3) := by decide +kernel
theorem dX9_ring_35 : decode cX9_ring 35 = .ok (.aload_n 0, 1) := by decide +kernel
theorem dX9_ring_36 : decode cX9_ring 36 = .ok (.getfield 88, 3) := by decide +kernel
theorem dX9_ring_39 : decode cX9_ring 39 = .ok (.iload_n 1, 1) := by decide +kernel
theorem dX9_ring_40 : decode cX9_ring 40 = .ok (.iaload, 1) := by decide +kernel
theorem dX9_ring_41 : decode cX9_ring 41 = .ok (.goto 4, 3) := by decide +kernel
theorem dX9_ring_44 : decode cX9_ring 44 = .ok (.iconst (-1), 1) := by decide +kernel
theorem dX9_ring_45 : decode cX9_ring 45 = .ok (.ireturn, 1) := by decide +kernel
set_option maxRecDepth 20000 in
theorem ggX9_swap_X9_findRing : GoodIn wsX9_swap wsX9_findRing := goodIn_r _ [10, 2, 3, 11, 12, 13, 9, 14, 5, 15, 4, 16, 17, 18, 19, 20, 21, 22, 23, 24, 25, 26, 27, 28, 29, 30, 31, 32, 33, 34, 35, 36, 37, 38, 39, 40, 41, 42, 43, 44, 45, 46, 47, 48, 49, 50, 51, 52] (by decide +kernel) (by decide +kernel)
set_option maxRecDepth 20000 in
theorem gX9_swap_X9_findRing : GoodIn wsX9_swap (wsV RX9 176 RX9 yX9_findRing wsX9_findRing) := goodIn_app (goodIn_of _ (by decide +kernel)) ggX9_swap_X9_findRing
theorem dX9_swap_0 : decode cX9_swap 0 = .ok (.aload_n 0, 1) := by decide +kernel
theorem dX9_swap_1 : decode cX9_swap 1 = .ok (.iconst 0, 1) := by decide +kernel
theorem dX9_swap_2 : decode cX9_swap 2 = .ok (.putfield 94, 3) := by decide +kernel
theorem dX9_swap_5 : decode cX9_swap 5 = .ok (.aload_n 0, 1) := by decide +kernel
theorem dX9_swap_6 : decode cX9_swap 6 = .ok (.invokevirtual 176, 3) := by decide +kernel
theorem dX9_swap_9 : decode cX9_swap 9 = .ok (.iconst 0, 1) := by decide +kernel
theorem dX9_swap_10 : decode cX9_swap 10 = .ok (.istore_n 1, 1) := by decide +kernel
theorem dX9_swap_11 : decode cX9_swap 11 = .ok (.iload_n 1, 1) := by decide +kernel
theorem dX9_swap_12 : decode cX9_swap 12 = .ok (.aload_n 0, 1) := by decide +kernel
theorem dX9_swap_13 : decode cX9_swap 13 = .ok (.getfield 170, 3) := by decide +kernel
theorem dX9_swap_16 : decode cX9_swap 16 = .ok (.if_icmp .ge 68, 3) := by decide +kernel
theorem dX9_swap_19 : decode cX9_swap 19 = .ok (.aload_n 0, 1) := by decide +kernel
theorem dX9_swap_20 : decode cX9_swap 20 = .ok (.getfield 88, 3) := by decide +kernel
theorem dX9_swap_23 : decode cX9_swap 23 = .ok (.iload_n 1, 1) := by decide +kernel
theorem dX9_swap_24 : decode cX9_swap 24 = .ok (.iaload, 1) := by decide +kernel
theorem dX9_swap_25 : decode cX9_swap 25 = .ok (.istore_n 2, 1) := by decide +kernel
theorem dX9_swap_26 : decode cX9_swap 26 = .ok (.aload_n 0, 1) := by decide +kernel
theorem dX9_swap_27 : decode cX9_swap 27 = .ok (.getfield 19, 3) := by decide +kernel
theorem dX9_swap_30 : decode cX9_swap 30 = .ok (.bipush 20, 2) := by decide +kernel
theorem dX9_swap_32 : decode cX9_swap 32 = .ok (.iload_n 2, 1) := by decide +kernel
theorem dX9_swap_33 : decode cX9_swap 33 = .ok (.imul, 1) := by decide +kernel
theorem dX9_swap_34 : decode cX9_swap 34 = .ok (.aload_n 0, 1) := by decide +kernel
theorem dX9_swap_35 : decode cX9_swap 35 = .ok (.getfield 63, 3) := by decide +kernel
theorem dX9_swap_38 : decode cX9_swap 38 = .ok (.iload_n 2, 1) := by decide +kernel
theorem dX9_swap_39 : decode cX9_swap 39 = .ok (.iaload, 1) := by decide +kernel
theorem dX9_swap_40 : decode cX9_swap 40 = .ok (.iadd, 1) := by decide +kernel
theorem dX9_swap_41 : decode cX9_swap 41 = .ok (.dup2, 1) := by decide +kernel
theorem dX9_swap_42 : decode cX9_swap 42 = .ok (.iaload, 1) := by decide +kernel
theorem dX9_swap_43 : decode cX9_swap 43 = .ok (.iconst 1, 1) := by decide +kernel
theorem dX9_swap_44 : decode cX9_swap 44 = .ok (.isub, 1) := by decide +kernel
theorem dX9_swap_45 : decode cX9_swap 45 = .ok (.iastore, 1) := by decide +kernel
theorem dX9_swap_46 : decode cX9_swap 46 = .ok (.aload_n 0, 1) := by decide +kernel
theorem dX9_swap_47 : decode cX9_swap 47 = .ok (.getfield 19, 3) := by decide +kernel
theorem dX9_swap_50 : decode cX9_swap 50 = .ok (.bipush 20, 2) := by decide +kernel
theorem dX9_swap_52 : decode cX9_swap 52 = .ok (.aload_n 0, 1) := by decide +kernel
