theorem dL_cell_0 : decode cL_cell 0 = .ok (.iload_n 1, 1) := by decide +kernel
theorem dL_cell_1 : decode cL_cell 1 = .ok (.aload_n 0, 1) := by decide +kernel
theorem dL_cell_2 : decode cL_cell 2 = .ok (.arraylength, 1) := by decide +kernel
theorem dL_cell_3 : decode cL_cell 3 = .ok (.if_icmp .ge 9, 3) := by decide +kernel
theorem dL_cell_6 : decode cL_cell 6 = .ok (.aload_n 0, 1) := by decide +kernel
theorem dL_cell_7 : decode cL_cell 7 = .ok (.iload_n 1, 1) := by decide +kernel
theorem dL_cell_8 : decode cL_cell 8 = .ok (.iaload, 1) := by decide +kernel
theorem dL_cell_9 : decode cL_cell 9 = .ok (.goto 17, 3) := by decide +kernel
theorem dL_cell_12 : decode cL_cell 12 = .ok (.sipush 7919, 3) := by decide +kernel
theorem dL_cell_15 : decode cL_cell 15 = .ok (.iload_n 1, 1) := by decide +kernel
theorem dL_cell_16 : decode cL_cell 16 = .ok (.sipush 2131, 3) := by decide +kernel
theorem dL_cell_19 : decode cL_cell 19 = .ok (.iadd, 1) := by decide +kernel
theorem dL_cell_20 : decode cL_cell 20 = .ok (.imul, 1) := by decide +kernel
theorem dL_cell_21 : decode cL_cell 21 = .ok (.iload_n 1, 1) := by decide +kernel
theorem dL_cell_22 : decode cL_cell 22 = .ok (.bipush 43, 2) := by decide +kernel
theorem dL_cell_24 : decode cL_cell 24 = .ok (.iadd, 1) := by decide +kernel
theorem dL_cell_25 : decode cL_cell 25 = .ok (.imul, 1) := by decide +kernel
theorem dL_cell_26 : decode cL_cell 26 = .ok (.ireturn, 1) := by decide +kernel
theorem dL_low_0 : decode cL_low 0 = .ok (.iload_n 0, 1) := by decide +kernel
theorem dL_low_1 : decode cL_low 1 = .ok (.ldc 7, 2) := by decide +kernel
theorem dL_low_3 : decode cL_low 3 = .ok (.iand, 1) := by decide +kernel
theorem dL_low_4 : decode cL_low 4 = .ok (.iload_n 1, 1) := by decide +kernel
theorem dL_low_5 : decode cL_low 5 = .ok (.irem, 1) := by decide +kernel
theorem dL_low_6 : decode cL_low 6 = .ok (.ireturn, 1) := by decide +kernel
set_option maxRecDepth 20000 in
theorem ggL_kind_X8_kind : GoodIn wsL_kind wsX8_kind := goodIn_ca (goodIn_ca (goodIn_r _ [8, 9, 10, 11, 12, 13, 14, 15, 16, 17, 18, 19, 20, 21, 22, 23, 24, 25, 26, 27, 28, 29, 30, 31, 32, 33, 34, 35, 36] (by decide +kernel) (by decide +kernel)) (goodIn_sub (fun _ h => List.mem_cons_of_mem _ (List.mem_append_left _ (List.mem_append_right _ h))) (by decide +kernel))) (goodIn_sub (fun _ h => List.mem_cons_of_mem _ (List.mem_append_right _ h)) (by decide +kernel))
set_option maxRecDepth 20000 in
theorem gL_kind_X8_kind : GoodIn wsL_kind (wsV RL 8 RX8 yX8_kind wsX8_kind) := goodIn_app (goodIn_of _ (by decide +kernel)) ggL_kind_X8_kind
theorem dL_kind_0 : decode cL_kind 0 = .ok (.aload_n 0, 1) := by decide +kernel
theorem dL_kind_1 : decode cL_kind 1 = .ok (.iload_n 1, 1) := by decide +kernel
theorem dL_kind_2 : decode cL_kind 2 = .ok (.iload_n 2, 1) := by decide +kernel
theorem dL_kind_3 : decode cL_kind 3 = .ok (.invokevirtual 8, 3) := by decide +kernel
theorem dL_kind_6 : decode cL_kind 6 = .ok (.i2l, 1) := by decide +kernel
theorem dL_kind_7 : decode cL_kind 7 = .ok (.lreturn, 1) := by decide +kernel
theorem dL_kind_8 : decode cL_kind 8 = .ok (.astore_n 3, 1) := by decide +kernel
theorem dL_kind_9 : decode cL_kind 9 = .ok (.ldc2_w 16, 3) := by decide +kernel
theorem dL_kind_12 : decode cL_kind 12 = .ok (.lreturn, 1) := by decide +kernel
theorem dL_kind_13 : decode cL_kind 13 = .ok (.astore_n 3, 1) := by decide +kernel
theorem dL_kind_14 : decode cL_kind 14 = .ok (.ldc2_w 16, 3) := by decide +kernel
theorem dL_kind_17 : decode cL_kind 17 = .ok (.lreturn, 1) := by decide +kernel
set_option maxRecDepth 20000 in
theorem ggL_ban_X8_ban : GoodIn wsL_ban wsX8_ban := goodIn_ca (goodIn_ca (goodIn_r _ [8, 9, 10, 11, 12, 13, 14, 7, 15, 16, 17, 18, 19, 20, 21, 22, 23, 24, 25, 26, 27, 28, 29, 30, 31, 32, 33, 34, 35, 36, 37, 38, 39, 40, 41, 42, 43, 44, 45, 46, 47] (by decide +kernel) (by decide +kernel)) (goodIn_sub (fun _ h => List.mem_cons_of_mem _ (List.mem_append_left _ (List.mem_append_right _ h))) (by decide +kernel))) (goodIn_sub (fun _ h => List.mem_cons_of_mem _ (List.mem_append_right _ h)) (by decide +kernel))
set_option maxRecDepth 20000 in
theorem gL_ban_X8_ban : GoodIn wsL_ban (wsV RL 20 RX8 yX8_ban wsX8_ban) := goodIn_app (goodIn_of _ (by decide +kernel)) ggL_ban_X8_ban
theorem dL_ban_0 : decode cL_ban 0 = .ok (.aload_n 0, 1) := by decide +kernel
theorem dL_ban_1 : decode cL_ban 1 = .ok (.iload_n 1, 1) := by decide +kernel
theorem dL_ban_2 : decode cL_ban 2 = .ok (.iload_n 2, 1) := by decide +kernel
theorem dL_ban_3 : decode cL_ban 3 = .ok (.invokevirtual 20, 3) := by decide +kernel
theorem dL_ban_6 : decode cL_ban 6 = .ok (.i2l, 1) := by decide +kernel
theorem dL_ban_7 : decode cL_ban 7 = .ok (.lreturn, 1) := by decide +kernel
theorem dL_ban_8 : decode cL_ban 8 = .ok (.astore_n 3, 1) := by decide +kernel
theorem dL_ban_9 : decode cL_ban 9 = .ok (.ldc2_w 16, 3) := by decide +kernel
theorem dL_ban_12 : decode cL_ban 12 = .ok (.lreturn, 1) := by decide +kernel
theorem dL_ban_13 : decode cL_ban 13 = .ok (.astore_n 3, 1) := by decide +kernel
theorem dL_ban_14 : decode cL_ban 14 = .ok (.ldc2_w 16, 3) := by decide +kernel
theorem dL_ban_17 : decode cL_ban 17 = .ok (.lreturn, 1) := by decide +kernel
set_option maxRecDepth 20000 in
theorem ggL_get_X8_get : GoodIn wsL_get wsX8_get := goodIn_ca (goodIn_ca (goodIn_r _ [8, 9, 10, 11, 12, 13, 14, 7, 15, 16, 17, 18, 19, 20, 21, 22, 23, 24, 25, 26, 27, 28, 29, 30, 31, 32, 33, 34, 35, 36, 37, 38, 39] (by decide +kernel) (by decide +kernel)) (goodIn_sub (fun _ h => List.mem_cons_of_mem _ (List.mem_append_left _ (List.mem_append_right _ h))) (by decide +kernel))) (goodIn_sub (fun _ h => List.mem_cons_of_mem _ (List.mem_append_right _ h)) (by decide +kernel))
set_option maxRecDepth 20000 in
theorem gL_get_X8_get : GoodIn wsL_get (wsV RL 25 RX8 yX8_get wsX8_get) := goodIn_app (goodIn_of _ (by decide +kernel)) ggL_get_X8_get
theorem dL_get_0 : decode cL_get 0 = .ok (.aload_n 0, 1) := by decide +kernel
theorem dL_get_1 : decode cL_get 1 = .ok (.iload_n 1, 1) := by decide +kernel
theorem dL_get_2 : decode cL_get 2 = .ok (.iload_n 2, 1) := by decide +kernel
theorem dL_get_3 : decode cL_get 3 = .ok (.iload_n 3, 1) := by decide +kernel
theorem dL_get_4 : decode cL_get 4 = .ok (.invokevirtual 25, 3) := by decide +kernel
theorem dL_get_7 : decode cL_get 7 = .ok (.i2l, 1) := by decide +kernel
theorem dL_get_8 : decode cL_get 8 = .ok (.lreturn, 1) := by decide +kernel
theorem dL_get_9 : decode cL_get 9 = .ok (.astore 4, 2) := by decide +kernel
theorem dL_get_11 : decode cL_get 11 = .ok (.ldc2_w 16, 3) := by decide +kernel
theorem dL_get_14 : decode cL_get 14 = .ok (.lreturn, 1) := by decide +kernel
theorem dL_get_15 : decode cL_get 15 = .ok (.astore 4, 2) := by decide +kernel
theorem dL_get_17 : decode cL_get 17 = .ok (.ldc2_w 16, 3) := by decide +kernel
theorem dL_get_20 : decode cL_get 20 = .ok (.lreturn, 1) := by decide +kernel
set_option maxRecDepth 20000 in
theorem ggL_pass_X8_pass : GoodIn wsL_pass wsX8_pass := goodIn_ca (goodIn_ca (goodIn_r _ [8, 9, 10, 11, 12, 13, 14, 15, 16, 17, 18, 19, 20, 21, 22] (by decide +kernel) (by decide +kernel)) (goodIn_sub (fun _ h => List.mem_cons_of_mem _ (List.mem_append_left _ (List.mem_append_right _ h))) (by decide +kernel))) (goodIn_sub (fun _ h => List.mem_cons_of_mem _ (List.mem_append_right _ h)) (by decide +kernel))
set_option maxRecDepth 20000 in
theorem gL_pass_X8_pass : GoodIn wsL_pass (wsV RL 29 RX8 yX8_pass wsX8_pass) := goodIn_app (goodIn_of _ (by decide +kernel)) ggL_pass_X8_pass
theorem dL_pass_0 : decode cL_pass 0 = .ok (.aload_n 0, 1) := by decide +kernel
theorem dL_pass_1 : decode cL_pass 1 = .ok (.iload_n 1, 1) := by decide +kernel
theorem dL_pass_2 : decode cL_pass 2 = .ok (.invokevirtual 29, 3) := by decide +kernel
theorem dL_pass_5 : decode cL_pass 5 = .ok (.i2l, 1) := by decide +kernel
theorem dL_pass_6 : decode cL_pass 6 = .ok (.lreturn, 1) := by decide +kernel
theorem dL_pass_7 : decode cL_pass 7 = .ok (.astore_n 2, 1) := by decide +kernel
theorem dL_pass_8 : decode cL_pass 8 = .ok (.ldc2_w 16, 3) := by decide +kernel
theorem dL_pass_11 : decode cL_pass 11 = .ok (.lreturn, 1) := by decide +kernel
theorem dL_pass_12 : decode cL_pass 12 = .ok (.astore_n 2, 1) := by decide +kernel
theorem dL_pass_13 : decode cL_pass 13 = .ok (.ldc2_w 16, 3) := by decide +kernel
theorem dL_pass_16 : decode cL_pass 16 = .ok (.lreturn, 1) := by decide +kernel
set_option maxRecDepth 20000 in
theorem ggL_play_X8_play : GoodIn wsL_play wsX8_play := goodIn_ca (goodIn_ca (goodIn_r _ [8, 9, 10, 11, 12, 13, 14, 15, 16, 17, 18, 19, 20, 21, 7, 22, 23, 24, 25, 26, 27, 28, 29, 30, 31, 32, 33, 34, 35, 36, 37, 38, 39, 40, 41, 42, 43, 44, 45, 46, 47, 48, 49, 50, 51, 52, 53, 54, 55, 56, 57, 58, 59, 60, 61, 62, 63, 64, 65, 66, 67, 68, 69, 70, 71, 72, 73, 74, 75, 76, 77, 78, 79, 80, 81, 82] (by decide +kernel) (by decide +kernel)) (goodIn_sub (fun _ h => List.mem_cons_of_mem _ (List.mem_append_left _ (List.mem_append_right _ h))) (by decide +kernel))) (goodIn_sub (fun _ h => List.mem_cons_of_mem _ (List.mem_append_right _ h)) (by decide +kernel))
set_option maxRecDepth 20000 in
theorem gL_play_X8_play : GoodIn wsL_play (wsV RL 33 RX8 yX8_play wsX8_play) := goodIn_app (goodIn_of _ (by decide +kernel)) ggL_play_X8_play
theorem dL_play_0 : decode cL_play 0 = .ok (.aload_n 0, 1) := by decide +kernel
theorem dL_play_1 : decode cL_play 1 = .ok (.iload_n 1, 1) := by decide +kernel
theorem dL_play_2 : decode cL_play 2 = .ok (.iload_n 2, 1) := by decide +kernel
theorem dL_play_3 : decode cL_play 3 = .ok (.iload_n 3, 1) := by decide +kernel
theorem dL_play_4 : decode cL_play 4 = .ok (.invokevirtual 33, 3) := by decide +kernel
theorem dL_play_7 : decode cL_play 7 = .ok (.i2l, 1) := by decide +kernel
theorem dL_play_8 : decode cL_play 8 = .ok (.lreturn, 1) := by decide +kernel
theorem dL_play_9 : decode cL_play 9 = .ok (.astore 4, 2) := by decide +kernel
theorem dL_play_11 : decode cL_play 11 = .ok (.ldc2_w 16, 3) := by decide +kernel
theorem dL_play_14 : decode cL_play 14 = .ok (.lreturn, 1) := by decide +kernel
theorem dL_play_15 : decode cL_play 15 = .ok (.astore 4, 2) := by decide +kernel
theorem dL_play_17 : decode cL_play 17 = .ok (.ldc2_w 16, 3) := by decide +kernel
theorem dL_play_20 : decode cL_play 20 = .ok (.lreturn, 1) := by decide +kernel
set_option maxRecDepth 20000 in
theorem ggL_top_X8_top : GoodIn wsL_top wsX8_top := goodIn_ca (goodIn_r _ [7, 8, 9, 10, 11, 12, 13, 14, 15, 16, 17, 18, 19, 20, 21, 22, 23, 24, 25, 26, 27, 28, 29, 30, 31, 32, 33, 34, 35, 36, 37, 38, 39, 40, 41, 42, 43, 44, 45, 46, 47, 48, 49, 50, 51, 52, 53, 54, 55, 56, 57, 58, 59, 60, 61, 62, 63, 64, 65, 66, 67, 68, 69, 70, 71, 72, 73, 74, 75, 76, 77, 78, 79, 80, 81, 82, 83, 84, 85] (by decide +kernel) (by decide +kernel)) (goodIn_sub (fun _ h => List.mem_cons_of_mem _ (List.mem_append_right _ h)) (by decide +kernel))
set_option maxRecDepth 20000 in
theorem gL_top_X8_top : GoodIn wsL_top (wsV RL 36 RX8 yX8_top wsX8_top) := goodIn_app (goodIn_of _ (by decide +kernel)) ggL_top_X8_top
theorem dL_top_0 : decode cL_top 0 = .ok (.aload_n 0, 1) := by decide +kernel
theorem dL_top_1 : decode cL_top 1 = .ok (.invokevirtual 36, 3) := by decide +kernel
theorem dL_top_4 : decode cL_top 4 = .ok (.i2l, 1) := by decide +kernel
theorem dL_top_5 : decode cL_top 5 = .ok (.lreturn, 1) := by decide +kernel
theorem dL_top_6 : decode cL_top 6 = .ok (.astore_n 1, 1) := by decide +kernel
theorem dL_top_7 : decode cL_top 7 = .ok (.ldc2_w 16, 3) := by decide +kernel
theorem dL_top_10 : decode cL_top 10 = .ok (.lreturn, 1) := by decide +kernel
set_option maxRecDepth 20000 in
theorem ggL_bound_X8_bound : GoodIn wsL_bound wsX8_bound := goodIn_ca (goodIn_r _ [7, 8, 9, 10, 11, 6, 12, 13, 14, 15, 16, 17, 18, 19, 20, 21, 22, 23, 24, 25, 26, 27, 28, 29, 30, 31, 32, 33, 34, 35, 36, 37, 38, 39, 40, 41, 42, 43, 44, 45, 46, 47, 48, 49, 50, 51, 52, 53, 54, 55, 56, 57, 58, 59, 60, 61, 62, 63, 64, 65, 66, 67, 68, 69, 70, 71, 72, 73, 74, 75, 76, 77, 78, 79, 80, 81, 82, 83, 84, 85, 86, 87, 88, 89, 90, 91, 92, 93, 94, 95, 96, 97, 98, 99, 100, 101, 102, 103, 104, 105, 106, 107, 108, 109, 110] (by decide +kernel) (by decide +kernel)) (goodIn_sub (fun _ h => List.mem_cons_of_mem _ (List.mem_append_right _ h)) (by decide +kernel))
set_option maxRecDepth 20000 in
theorem gL_bound_X8_bound : GoodIn wsL_bound (wsV RL 40 RX8 yX8_bound wsX8_bound) := goodIn_app (goodIn_of _ (by decide +kernel)) ggL_bound_X8_bound
theorem dL_bound_0 : decode cL_bound 0 = .ok (.aload_n 0, 1) := by decide +kernel
theorem dL_bound_1 : decode cL_bound 1 = .ok (.iload_n 1, 1) := by decide +kernel
theorem dL_bound_2 : decode cL_bound 2 = .ok (.iload_n 2, 1) := by decide +kernel
theorem dL_bound_3 : decode cL_bound 3 = .ok (.invokevirtual 40, 3) := by decide +kernel
theorem dL_bound_6 : decode cL_bound 6 = .ok (.i2l, 1) := by decide +kernel
theorem dL_bound_7 : decode cL_bound 7 = .ok (.lreturn, 1) := by decide +kernel
theorem dL_bound_8 : decode cL_bound 8 = .ok (.astore_n 3, 1) := by decide +kernel
theorem dL_bound_9 : decode cL_bound 9 = .ok (.ldc2_w 16, 3) := by decide +kernel
theorem dL_bound_12 : decode cL_bound 12 = .ok (.lreturn, 1) := by decide +kernel
set_option maxRecDepth 20000 in
theorem ggL_life_X8_life : GoodIn wsL_life wsX8_life := goodIn_ca (goodIn_r _ [7, 8, 9, 10, 11, 12, 6, 13, 14, 15, 16, 17, 18, 19, 20, 21, 22, 23, 24, 25, 26, 27, 28, 29, 30, 31] (by decide +kernel) (by decide +kernel)) (goodIn_sub (fun _ h => List.mem_cons_of_mem _ (List.mem_append_right _ h)) (by decide +kernel))
set_option maxRecDepth 20000 in
theorem gL_life_X8_life : GoodIn wsL_life (wsV RL 44 RX8 yX8_life wsX8_life) := goodIn_app (goodIn_of _ (by decide +kernel)) ggL_life_X8_life
theorem dL_life_0 : decode cL_life 0 = .ok (.aload_n 0, 1) := by decide +kernel
theorem dL_life_1 : decode cL_life 1 = .ok (.iload_n 1, 1) := by decide +kernel
theorem dL_life_2 : decode cL_life 2 = .ok (.iload_n 2, 1) := by decide +kernel
theorem dL_life_3 : decode cL_life 3 = .ok (.invokevirtual 44, 3) := by decide +kernel
theorem dL_life_6 : decode cL_life 6 = .ok (.i2l, 1) := by decide +kernel
theorem dL_life_7 : decode cL_life 7 = .ok (.lreturn, 1) := by decide +kernel
theorem dL_life_8 : decode cL_life 8 = .ok (.astore_n 3, 1) := by decide +kernel
theorem dL_life_9 : decode cL_life 9 = .ok (.ldc2_w 16, 3) := by decide +kernel
theorem dL_life_12 : decode cL_life 12 = .ok (.lreturn, 1) := by decide +kernel
set_option maxRecDepth 20000 in
theorem ggL_put_X8_put : GoodIn wsL_put wsX8_put := goodIn_ca (goodIn_ca (goodIn_r _ [8, 9, 10, 11, 12, 13, 7, 14, 15, 16, 17, 18, 19, 20, 21, 22, 23, 24, 25, 26, 27, 28, 29, 30, 31, 32, 33, 34, 35, 36, 37, 38, 39, 40, 41, 42, 43, 44, 45, 46, 47, 48, 49, 50, 51, 52, 53, 54, 55, 56, 57, 58, 59, 60, 61, 62] (by decide +kernel) (by decide +kernel)) (goodIn_sub (fun _ h => List.mem_cons_of_mem _ (List.mem_append_left _ (List.mem_append_right _ h))) (by decide +kernel))) (goodIn_sub (fun _ h => List.mem_cons_of_mem _ (List.mem_append_right _ h)) (by decide +kernel))
set_option maxRecDepth 20000 in
theorem gL_put_X8_put : GoodIn wsL_put (wsV RL 47 RX8 yX8_put wsX8_put) := goodIn_app (goodIn_of _ (by decide +kernel)) ggL_put_X8_put
theorem dL_put_0 : decode cL_put 0 = .ok (.aload_n 0, 1) := by decide +kernel
theorem dL_put_1 : decode cL_put 1 = .ok (.iload_n 1, 1) := by decide +kernel
theorem dL_put_2 : decode cL_put 2 = .ok (.iload_n 2, 1) := by decide +kernel
theorem dL_put_3 : decode cL_put 3 = .ok (.invokevirtual 47, 3) := by decide +kernel
theorem dL_put_6 : decode cL_put 6 = .ok (.i2l, 1) := by decide +kernel
theorem dL_put_7 : decode cL_put 7 = .ok (.lreturn, 1) := by decide +kernel
theorem dL_put_8 : decode cL_put 8 = .ok (.astore_n 3, 1) := by decide +kernel
theorem dL_put_9 : decode cL_put 9 = .ok (.ldc2_w 16, 3) := by decide +kernel
theorem dL_put_12 : decode cL_put 12 = .ok (.lreturn, 1) := by decide +kernel
theorem dL_put_13 : decode cL_put 13 = .ok (.astore_n 3, 1) := by decide +kernel
theorem dL_put_14 : decode cL_put 14 = .ok (.ldc2_w 16, 3) := by decide +kernel
theorem dL_put_17 : decode cL_put 17 = .ok (.lreturn, 1) := by decide +kernel
set_option maxRecDepth 20000 in
theorem ggL_isGood_X8_isGood : GoodIn wsL_isGood wsX8_isGood := goodIn_ca (goodIn_ca (goodIn_r _ [8, 9, 10, 11, 12, 7, 13, 14, 15, 16, 17, 18, 19, 20, 21, 22, 23, 24, 25, 26, 27, 28, 29, 30, 31, 32, 33, 34, 35, 36, 37, 38, 39, 40, 41, 42, 43, 44, 45, 46, 47, 48, 49, 50, 51, 52, 53, 54, 55, 56, 57, 58, 59, 60] (by decide +kernel) (by decide +kernel)) (goodIn_sub (fun _ h => List.mem_cons_of_mem _ (List.mem_append_left _ (List.mem_append_right _ h))) (by decide +kernel))) (goodIn_sub (fun _ h => List.mem_cons_of_mem _ (List.mem_append_right _ h)) (by decide +kernel))
set_option maxRecDepth 20000 in
theorem gL_isGood_X8_isGood : GoodIn wsL_isGood (wsV RL 50 RX8 yX8_isGood wsX8_isGood) := goodIn_app (goodIn_of _ (by decide +kernel)) ggL_isGood_X8_isGood
theorem dL_isGood_0 : decode cL_isGood 0 = .ok (.aload_n 0, 1) := by decide +kernel
theorem dL_isGood_1 : decode cL_isGood 1 = .ok (.iload_n 1, 1) := by decide +kernel
theorem dL_isGood_2 : decode cL_isGood 2 = .ok (.iload_n 2, 1) := by decide +kernel
theorem dL_isGood_3 : decode cL_isGood 3 = .ok (.invokevirtual 50, 3) := by decide +kernel
theorem dL_isGood_6 : decode cL_isGood 6 = .ok (.ifCond .eq 7, 3) := by decide +kernel
theorem dL_isGood_9 : decode cL_isGood 9 = .ok (.lconst 1, 1) := by decide +kernel
theorem dL_isGood_10 : decode cL_isGood 10 = .ok (.goto 4, 3) := by decide +kernel
theorem dL_isGood_13 : decode cL_isGood 13 = .ok (.lconst 0, 1) := by decide +kernel
theorem dL_isGood_14 : decode cL_isGood 14 = .ok (.lreturn, 1) := by decide +kernel
theorem dL_isGood_15 : decode cL_isGood 15 = .ok (.astore_n 3, 1) := by decide +kernel
theorem dL_isGood_16 : decode cL_isGood 16 = .ok (.ldc2_w 16, 3) := by decide +kernel
theorem dL_isGood_19 : decode cL_isGood 19 = .ok (.lreturn, 1) := by decide +kernel
theorem dL_isGood_20 : decode cL_isGood 20 = .ok (.astore_n 3, 1) := by decide +kernel
theorem dL_isGood_21 : decode cL_isGood 21 = .ok (.ldc2_w 16, 3) := by decide +kernel
theorem dL_isGood_24 : decode cL_isGood 24 = .ok (.lreturn, 1) := by decide +kernel
set_option maxRecDepth 20000 in
theorem ggL_draft_X8_draft : GoodIn wsL_draft wsX8_draft := goodIn_ca (goodIn_ca (goodIn_r _ [8, 9, 10, 11, 12, 13, 14, 15, 16, 17, 18, 19, 20, 21, 22, 23, 24, 25, 26, 27, 28, 29, 30, 31, 32, 33, 34, 35, 36, 37, 38, 39, 40, 41, 42, 43, 44, 45] (by decide +kernel) (by decide +kernel)) (goodIn_sub (fun _ h => List.mem_cons_of_mem _ (List.mem_append_left _ (List.mem_append_right _ h))) (by decide +kernel))) (goodIn_sub (fun _ h => List.mem_cons_of_mem _ (List.mem_append_right _ h)) (by decide +kernel))
set_option maxRecDepth 20000 in
theorem gL_draft_X8_draft : GoodIn wsL_draft (wsV RL 54 RX8 yX8_draft wsX8_draft) := goodIn_app (goodIn_of _ (by decide +kernel)) ggL_draft_X8_draft
theorem dL_draft_0 : decode cL_draft 0 = .ok (.aload_n 0, 1) := by decide +kernel
theorem dL_draft_1 : decode cL_draft 1 = .ok (.iload_n 1, 1) := by decide +kernel
theorem dL_draft_2 : decode cL_draft 2 = .ok (.iload_n 2, 1) := by decide +kernel
theorem dL_draft_3 : decode cL_draft 3 = .ok (.iload_n 3, 1) := by decide +kernel
theorem dL_draft_4 : decode cL_draft 4 = .ok (.invokevirtual 54, 3) := by decide +kernel
theorem dL_draft_7 : decode cL_draft 7 = .ok (.lconst 0, 1) := by decide +kernel
theorem dL_draft_8 : decode cL_draft 8 = .ok (.lreturn, 1) := by decide +kernel
theorem dL_draft_9 : decode cL_draft 9 = .ok (.astore 4, 2) := by decide +kernel
theorem dL_draft_11 : decode cL_draft 11 = .ok (.ldc2_w 16, 3) := by decide +kernel
theorem dL_draft_14 : decode cL_draft 14 = .ok (.lreturn, 1) := by decide +kernel
theorem dL_draft_15 : decode cL_draft 15 = .ok (.astore 4, 2) := by decide +kernel
theorem dL_draft_17 : decode cL_draft 17 = .ok (.ldc2_w 16, 3) := by decide +kernel
theorem dL_draft_20 : decode cL_draft 20 = .ok (.lreturn, 1) := by decide +kernel
set_option maxRecDepth 20000 in
theorem ggL_offered_X8_offered : GoodIn wsL_offered wsX8_offered := goodIn_ca (goodIn_r _ [7, 8, 9, 10, 11, 12, 13, 14, 15, 16, 17, 18, 19, 20, 21, 22, 23, 24, 25, 26, 27, 28, 29, 30, 31, 32, 33, 34, 35, 36, 37, 38, 39, 40, 41, 42, 43, 44, 45, 46] (by decide +kernel) (by decide +kernel)) (goodIn_sub (fun _ h => List.mem_cons_of_mem _ (List.mem_append_right _ h)) (by decide +kernel))
set_option maxRecDepth 20000 in
theorem gL_offered_X8_offered : GoodIn wsL_offered (wsV RL 58 RX8 yX8_offered wsX8_offered) := goodIn_app (goodIn_of _ (by decide +kernel)) ggL_offered_X8_offered
theorem dL_offered_0 : decode cL_offered 0 = .ok (.aload_n 0, 1) := by decide +kernel
theorem dL_offered_1 : decode cL_offered 1 = .ok (.iload_n 1, 1) := by decide +kernel
theorem dL_offered_2 : decode cL_offered 2 = .ok (.invokevirtual 58, 3) := by decide +kernel
theorem dL_offered_5 : decode cL_offered 5 = .ok (.i2l, 1) := by decide +kernel
theorem dL_offered_6 : decode cL_offered 6 = .ok (.lreturn, 1) := by decide +kernel
theorem dL_offered_7 : decode cL_offered 7 = .ok (.astore_n 2, 1) := by decide +kernel
theorem dL_offered_8 : decode cL_offered 8 = .ok (.ldc2_w 16, 3) := by decide +kernel
theorem dL_offered_11 : decode cL_offered 11 = .ok (.lreturn, 1) := by decide +kernel
set_option maxRecDepth 20000 in
theorem ggL_pick_X8_pick : GoodIn wsL_pick wsX8_pick := goodIn_ca (goodIn_ca (goodIn_r _ [8, 9, 10, 11, 12, 13, 14, 15, 16, 17, 18, 19, 20, 21, 22, 23, 24, 25, 26, 27, 28, 29, 30, 31, 32, 33, 34, 35, 36, 37, 38, 39, 40, 41, 42, 43, 44, 45, 46, 47, 48, 49, 50, 51, 52, 53, 54, 55, 56, 57, 58, 59, 60, 61, 62, 63, 64] (by decide +kernel) (by decide +kernel)) (goodIn_sub (fun _ h => List.mem_cons_of_mem _ (List.mem_append_left _ (List.mem_append_right _ h))) (by decide +kernel))) (goodIn_sub (fun _ h => List.mem_cons_of_mem _ (List.mem_append_right _ h)) (by decide +kernel))
set_option maxRecDepth 20000 in
theorem gL_pick_X8_pick : GoodIn wsL_pick (wsV RL 61 RX8 yX8_pick wsX8_pick) := goodIn_app (goodIn_of _ (by decide +kernel)) ggL_pick_X8_pick
theorem dL_pick_0 : decode cL_pick 0 = .ok (.aload_n 0, 1) := by decide +kernel
theorem dL_pick_1 : decode cL_pick 1 = .ok (.iload_n 1, 1) := by decide +kernel
theorem dL_pick_2 : decode cL_pick 2 = .ok (.invokevirtual 61, 3) := by decide +kernel
theorem dL_pick_5 : decode cL_pick 5 = .ok (.i2l, 1) := by decide +kernel
theorem dL_pick_6 : decode cL_pick 6 = .ok (.lreturn, 1) := by decide +kernel
theorem dL_pick_7 : decode cL_pick 7 = .ok (.astore_n 2, 1) := by decide +kernel
theorem dL_pick_8 : decode cL_pick 8 = .ok (.ldc2_w 16, 3) := by decide +kernel
theorem dL_pick_11 : decode cL_pick 11 = .ok (.lreturn, 1) := by decide +kernel
theorem dL_pick_12 : decode cL_pick 12 = .ok (.astore_n 2, 1) := by decide +kernel
theorem dL_pick_13 : decode cL_pick 13 = .ok (.ldc2_w 16, 3) := by decide +kernel
theorem dL_pick_16 : decode cL_pick 16 = .ok (.lreturn, 1) := by decide +kernel
set_option maxRecDepth 20000 in
theorem ggL_wish_X8_wish : GoodIn wsL_wish wsX8_wish := goodIn_ca (goodIn_ca (goodIn_r _ [8, 9, 10, 11, 12, 13, 7, 14, 15, 16, 17, 18, 19, 20, 21, 22, 23, 24, 25, 26, 27, 28, 29, 30, 31, 32, 33, 34, 35, 36, 37, 38, 39, 40, 41, 42, 43, 44, 45, 46] (by decide +kernel) (by decide +kernel)) (goodIn_sub (fun _ h => List.mem_cons_of_mem _ (List.mem_append_left _ (List.mem_append_right _ h))) (by decide +kernel))) (goodIn_sub (fun _ h => List.mem_cons_of_mem _ (List.mem_append_right _ h)) (by decide +kernel))
set_option maxRecDepth 20000 in
theorem gL_wish_X8_wish : GoodIn wsL_wish (wsV RL 64 RX8 yX8_wish wsX8_wish) := goodIn_app (goodIn_of _ (by decide +kernel)) ggL_wish_X8_wish
theorem dL_wish_0 : decode cL_wish 0 = .ok (.aload_n 0, 1) := by decide +kernel
theorem dL_wish_1 : decode cL_wish 1 = .ok (.iload_n 1, 1) := by decide +kernel
theorem dL_wish_2 : decode cL_wish 2 = .ok (.iload_n 2, 1) := by decide +kernel
theorem dL_wish_3 : decode cL_wish 3 = .ok (.iload_n 3, 1) := by decide +kernel
theorem dL_wish_4 : decode cL_wish 4 = .ok (.invokevirtual 64, 3) := by decide +kernel
theorem dL_wish_7 : decode cL_wish 7 = .ok (.lconst 0, 1) := by decide +kernel
theorem dL_wish_8 : decode cL_wish 8 = .ok (.lreturn, 1) := by decide +kernel
theorem dL_wish_9 : decode cL_wish 9 = .ok (.astore 4, 2) := by decide +kernel
theorem dL_wish_11 : decode cL_wish 11 = .ok (.ldc2_w 16, 3) := by decide +kernel
theorem dL_wish_14 : decode cL_wish 14 = .ok (.lreturn, 1) := by decide +kernel
theorem dL_wish_15 : decode cL_wish 15 = .ok (.astore 4, 2) := by decide +kernel
theorem dL_wish_17 : decode cL_wish 17 = .ok (.ldc2_w 16, 3) := by decide +kernel
theorem dL_wish_20 : decode cL_wish 20 = .ok (.lreturn, 1) := by decide +kernel
set_option maxRecDepth 20000 in
theorem ggL_ring_X8_ring : GoodIn wsL_ring wsX8_ring := goodIn_ca (goodIn_r _ [7, 8, 9, 10, 11, 12, 13, 14, 15, 16, 17, 18, 19, 20, 21, 22, 23, 24, 25, 26, 27, 28, 29, 30, 31, 32, 33, 34, 35, 36, 37, 38, 39, 40, 41, 42, 43, 44, 45, 46, 47, 48, 49, 50, 51, 52, 53, 54, 55, 56, 57, 58] (by decide +kernel) (by decide +kernel)) (goodIn_sub (fun _ h => List.mem_cons_of_mem _ (List.mem_append_right _ h)) (by decide +kernel))
set_option maxRecDepth 20000 in
theorem gL_ring_X8_ring : GoodIn wsL_ring (wsV RL 67 RX8 yX8_ring wsX8_ring) := goodIn_app (goodIn_of _ (by decide +kernel)) ggL_ring_X8_ring
theorem dL_ring_0 : decode cL_ring 0 = .ok (.aload_n 0, 1) := by decide +kernel
theorem dL_ring_1 : decode cL_ring 1 = .ok (.iload_n 1, 1) := by decide +kernel
theorem dL_ring_2 : decode cL_ring 2 = .ok (.invokevirtual 67, 3) := by decide +kernel
theorem dL_ring_5 : decode cL_ring 5 = .ok (.i2l, 1) := by decide +kernel
theorem dL_ring_6 : decode cL_ring 6 = .ok (.lreturn, 1) := by decide +kernel
theorem dL_ring_7 : decode cL_ring 7 = .ok (.astore_n 2, 1) := by decide +kernel
theorem dL_ring_8 : decode cL_ring 8 = .ok (.ldc2_w 16, 3) := by decide +kernel
theorem dL_ring_11 : decode cL_ring 11 = .ok (.lreturn, 1) := by decide +kernel
set_option maxRecDepth 20000 in
theorem ggL_pair_X8_pair : GoodIn wsL_pair wsX8_pair := goodIn_ca (goodIn_ca (goodIn_r _ [8, 9, 10, 11, 12, 13, 7, 14, 15, 16, 17, 18, 19, 20, 21, 22, 23, 24, 25, 26, 27, 28, 29, 30, 31, 32, 33, 34, 35, 36, 37, 38, 39, 40, 41, 42, 43, 44, 45, 46, 47, 48, 49, 50, 51, 52, 53, 54, 55, 56] (by decide +kernel) (by decide +kernel)) (goodIn_sub (fun _ h => List.mem_cons_of_mem _ (List.mem_append_left _ (List.mem_append_right _ h))) (by decide +kernel))) (goodIn_sub (fun _ h => List.mem_cons_of_mem _ (List.mem_append_right _ h)) (by decide +kernel))
set_option maxRecDepth 20000 in
theorem gL_pair_X8_pair : GoodIn wsL_pair (wsV RL 70 RX8 yX8_pair wsX8_pair) := goodIn_app (goodIn_of _ (by decide +kernel)) ggL_pair_X8_pair
theorem dL_pair_0 : decode cL_pair 0 = .ok (.aload_n 0, 1) := by decide +kernel
theorem dL_pair_1 : decode cL_pair 1 = .ok (.iload_n 1, 1) := by decide +kernel
theorem dL_pair_2 : decode cL_pair 2 = .ok (.iload_n 2, 1) := by decide +kernel
theorem dL_pair_3 : decode cL_pair 3 = .ok (.invokevirtual 70, 3) := by decide +kernel
theorem dL_pair_6 : decode cL_pair 6 = .ok (.i2l, 1) := by decide +kernel
theorem dL_pair_7 : decode cL_pair 7 = .ok (.lreturn, 1) := by decide +kernel
theorem dL_pair_8 : decode cL_pair 8 = .ok (.astore_n 3, 1) := by decide +kernel
theorem dL_pair_9 : decode cL_pair 9 = .ok (.ldc2_w 16, 3) := by decide +kernel
theorem dL_pair_12 : decode cL_pair 12 = .ok (.lreturn, 1) := by decide +kernel
theorem dL_pair_13 : decode cL_pair 13 = .ok (.astore_n 3, 1) := by decide +kernel
theorem dL_pair_14 : decode cL_pair 14 = .ok (.ldc2_w 16, 3) := by decide +kernel
theorem dL_pair_17 : decode cL_pair 17 = .ok (.lreturn, 1) := by decide +kernel
set_option maxRecDepth 20000 in
theorem ggL_result_X8_result : GoodIn wsL_result wsX8_result := goodIn_ca (goodIn_ca (goodIn_r _ [8, 9, 10, 11, 12, 13, 7, 14, 15, 16, 17, 18, 19, 20, 21, 22, 23, 24, 25, 26, 27, 28, 29, 30, 31, 32, 33, 34, 35, 36, 37, 38, 39, 40, 41, 42, 43, 44] (by decide +kernel) (by decide +kernel)) (goodIn_sub (fun _ h => List.mem_cons_of_mem _ (List.mem_append_left _ (List.mem_append_right _ h))) (by decide +kernel))) (goodIn_sub (fun _ h => List.mem_cons_of_mem _ (List.mem_append_right _ h)) (by decide +kernel))
set_option maxRecDepth 20000 in
theorem gL_result_X8_result : GoodIn wsL_result (wsV RL 73 RX8 yX8_result wsX8_result) := goodIn_app (goodIn_of _ (by decide +kernel)) ggL_result_X8_result
theorem dL_result_0 : decode cL_result 0 = .ok (.aload_n 0, 1) := by decide +kernel
theorem dL_result_1 : decode cL_result 1 = .ok (.iload_n 1, 1) := by decide +kernel
theorem dL_result_2 : decode cL_result 2 = .ok (.iload_n 2, 1) := by decide +kernel
theorem dL_result_3 : decode cL_result 3 = .ok (.invokevirtual 73, 3) := by decide +kernel
theorem dL_result_6 : decode cL_result 6 = .ok (.i2l, 1) := by decide +kernel
theorem dL_result_7 : decode cL_result 7 = .ok (.lreturn, 1) := by decide +kernel
theorem dL_result_8 : decode cL_result 8 = .ok (.astore_n 3, 1) := by decide +kernel
theorem dL_result_9 : decode cL_result 9 = .ok (.ldc2_w 16, 3) := by decide +kernel
theorem dL_result_12 : decode cL_result 12 = .ok (.lreturn, 1) := by decide +kernel
theorem dL_result_13 : decode cL_result 13 = .ok (.astore_n 3, 1) := by decide +kernel
theorem dL_result_14 : decode cL_result 14 = .ok (.ldc2_w 16, 3) := by decide +kernel
theorem dL_result_17 : decode cL_result 17 = .ok (.lreturn, 1) := by decide +kernel
set_option maxRecDepth 20000 in
theorem ggL_has_X8_has : GoodIn wsL_has wsX8_has := goodIn_ca (goodIn_r _ [7, 8, 9, 10, 11, 6, 12, 13, 14, 15, 16, 17, 18, 19, 20, 21, 22, 23, 24, 25, 26, 27, 28, 29, 30, 31, 32, 33, 34, 35, 36] (by decide +kernel) (by decide +kernel)) (goodIn_sub (fun _ h => List.mem_cons_of_mem _ (List.mem_append_right _ h)) (by decide +kernel))
set_option maxRecDepth 20000 in
theorem gL_has_X8_has : GoodIn wsL_has (wsV RL 76 RX8 yX8_has wsX8_has) := goodIn_app (goodIn_of _ (by decide +kernel)) ggL_has_X8_has
theorem dL_has_0 : decode cL_has 0 = .ok (.aload_n 0, 1) := by decide +kernel
theorem dL_has_1 : decode cL_has 1 = .ok (.iload_n 1, 1) := by decide +kernel
theorem dL_has_2 : decode cL_has 2 = .ok (.iload_n 2, 1) := by decide +kernel
theorem dL_has_3 : decode cL_has 3 = .ok (.invokevirtual 76, 3) := by decide +kernel
theorem dL_has_6 : decode cL_has 6 = .ok (.i2l, 1) := by decide +kernel
theorem dL_has_7 : decode cL_has 7 = .ok (.lreturn, 1) := by decide +kernel
theorem dL_has_8 : decode cL_has 8 = .ok (.astore_n 3, 1) := by decide +kernel
theorem dL_has_9 : decode cL_has 9 = .ok (.ldc2_w 16, 3) := by decide +kernel
theorem dL_has_12 : decode cL_has 12 = .ok (.lreturn, 1) := by decide +kernel
set_option maxRecDepth 20000 in
theorem ggL_strength_X8_strength : GoodIn wsL_strength wsX8_strength := goodIn_ca (goodIn_r _ [7, 8, 9, 10, 11, 6, 12, 13, 14, 15, 16, 17, 18, 19, 20, 21, 22, 23, 24, 25, 26, 27, 28] (by decide +kernel) (by decide +kernel)) (goodIn_sub (fun _ h => List.mem_cons_of_mem _ (List.mem_append_right _ h)) (by decide +kernel))
set_option maxRecDepth 20000 in
theorem gL_strength_X8_strength : GoodIn wsL_strength (wsV RL 79 RX8 yX8_strength wsX8_strength) := goodIn_app (goodIn_of _ (by decide +kernel)) ggL_strength_X8_strength
theorem dL_strength_0 : decode cL_strength 0 = .ok (.aload_n 0, 1) := by decide +kernel
theorem dL_strength_1 : decode cL_strength 1 = .ok (.iload_n 1, 1) := by decide +kernel
theorem dL_strength_2 : decode cL_strength 2 = .ok (.invokevirtual 79, 3) := by decide +kernel
theorem dL_strength_5 : decode cL_strength 5 = .ok (.i2l, 1) := by decide +kernel
theorem dL_strength_6 : decode cL_strength 6 = .ok (.lreturn, 1) := by decide +kernel
theorem dL_strength_7 : decode cL_strength 7 = .ok (.astore_n 2, 1) := by decide +kernel
theorem dL_strength_8 : decode cL_strength 8 = .ok (.ldc2_w 16, 3) := by decide +kernel
theorem dL_strength_11 : decode cL_strength 11 = .ok (.lreturn, 1) := by decide +kernel
set_option maxRecDepth 20000 in
theorem ggL_act_L_low : GoodIn wsL_act wsL_low := goodIn_r _ [5, 6] (by decide +kernel) (by decide +kernel)
set_option maxRecDepth 20000 in
theorem gL_act_L_low : GoodIn wsL_act (va_wsS RL 82 yL_low wsL_low) := goodIn_app (goodIn_of _ (by decide +kernel)) ggL_act_L_low
set_option maxRecDepth 20000 in
theorem ggL_act_L_kind : GoodIn wsL_act wsL_kind := goodIn_ca (goodIn_ca (goodIn_r _ [9, 10, 11, 12, 13, 14, 15, 16, 17, 18, 19, 20, 21, 22, 23, 24, 25, 26, 27, 28, 29, 30, 31, 32, 451, 452, 453, 454, 455, 456, 457, 458, 459, 460, 461, 462, 463] (by decide +kernel) (by decide +kernel)) (goodIn_sub (fun _ h => List.mem_cons_of_mem _ (List.mem_append_left _ (List.mem_append_left _ (List.mem_append_right _ h)))) (by decide +kernel))) (goodIn_sub (fun _ h => List.mem_cons_of_mem _ (List.mem_append_left _ (List.mem_append_right _ h))) (by decide +kernel))
set_option maxRecDepth 20000 in
theorem gL_act_L_kind : GoodIn wsL_act (va_wsS RL 87 yL_kind wsL_kind) := goodIn_app (goodIn_of _ (by decide +kernel)) ggL_act_L_kind
set_option maxRecDepth 20000 in
theorem ggL_act_L_ban : GoodIn wsL_act wsL_ban := goodIn_ca (goodIn_ca (goodIn_r _ [35, 36, 10, 12, 37, 38, 39, 16, 40, 22, 41, 42, 43, 44, 45, 46, 47, 48, 23, 49, 50, 51, 52, 18, 19, 53, 54, 55, 56, 57, 58, 59, 451, 452, 453, 454, 455, 456, 457, 458, 459, 460, 461, 462, 463, 464, 465, 466] (by decide +kernel) (by decide +kernel)) (goodIn_sub (fun _ h => List.mem_cons_of_mem _ (List.mem_append_right _ h)) (by decide +kernel))) (goodIn_sub (fun _ h => List.mem_cons_of_mem _ (List.mem_append_left _ (List.mem_append_left _ (List.mem_append_right _ h)))) (by decide +kernel))
set_option maxRecDepth 20000 in
theorem gL_act_L_ban : GoodIn wsL_act (va_wsS RL 90 yL_ban wsL_ban) := goodIn_app (goodIn_of _ (by decide +kernel)) ggL_act_L_ban
set_option maxRecDepth 20000 in
theorem ggL_act_L_get : GoodIn wsL_act wsL_get := goodIn_ca (goodIn_ca (goodIn_r _ [62, 36, 10, 12, 63, 64, 65, 16, 66, 18, 19, 42, 67, 68, 69, 70, 47, 48, 43, 44, 45, 46, 22, 23, 451, 452, 453, 454, 455, 456, 457, 458, 459, 464, 465, 466, 460, 461, 462, 463] (by decide +kernel) (by decide +kernel)) (goodIn_sub (fun _ h => List.mem_cons_of_mem _ (List.mem_append_left _ (List.mem_append_left _ (List.mem_append_right _ h)))) (by decide +kernel))) (goodIn_sub (fun _ h => List.mem_cons_of_mem _ (List.mem_append_right _ h)) (by decide +kernel))
set_option maxRecDepth 20000 in
theorem gL_act_L_get : GoodIn wsL_act (va_wsS RL 92 yL_get wsL_get) := goodIn_app (goodIn_of _ (by decide +kernel)) ggL_act_L_get
set_option maxRecDepth 20000 in
theorem ggL_act_L_pass : GoodIn wsL_act wsL_pass := goodIn_ca (goodIn_ca (goodIn_r _ [73, 10, 11, 12, 74, 75, 76, 16, 77, 18, 19, 20, 21, 53, 451, 452, 453, 454, 455, 456, 457, 458, 459] (by decide +kernel) (by decide +kernel)) (goodIn_sub (fun _ h => List.mem_cons_of_mem _ (List.mem_append_left _ (List.mem_append_left _ (List.mem_append_right _ h)))) (by decide +kernel))) (goodIn_sub (fun _ h => List.mem_cons_of_mem _ (List.mem_append_left _ (List.mem_append_right _ h))) (by decide +kernel))
set_option maxRecDepth 20000 in
theorem gL_act_L_pass : GoodIn wsL_act (va_wsS RL 95 yL_pass wsL_pass) := goodIn_app (goodIn_of _ (by decide +kernel)) ggL_act_L_pass
set_option maxRecDepth 20000 in
theorem ggL_act_L_play : GoodIn wsL_act wsL_play := goodIn_ca (goodIn_ca (goodIn_r _ [80, 36, 11, 12, 81, 82, 83, 16, 84, 20, 21, 42, 67, 22, 53, 85, 86, 87, 88, 89, 68, 69, 70, 47, 48, 43, 44, 45, 46, 23, 90, 91, 92, 27, 93, 32, 94, 95, 96, 97, 98, 99, 100, 101, 102, 103, 104, 105, 106, 107, 108, 109, 110, 111, 112, 113, 114, 451, 452, 453, 454, 455, 456, 457, 458, 459, 464, 465, 466, 467, 468, 469, 470, 471, 472, 473, 460, 461, 462, 463, 474, 475, 476] (by decide +kernel) (by decide +kernel)) (goodIn_sub (fun _ h => List.mem_cons_of_mem _ (List.mem_append_left _ (List.mem_append_right _ h))) (by decide +kernel))) (goodIn_sub (fun _ h => List.mem_cons_of_mem _ (List.mem_append_right _ h)) (by decide +kernel))
set_option maxRecDepth 20000 in
theorem gL_act_L_play : GoodIn wsL_act (va_wsS RL 98 yL_play wsL_play) := goodIn_app (goodIn_of _ (by decide +kernel)) ggL_act_L_play
set_option maxRecDepth 20000 in
theorem ggL_act_L_top : GoodIn wsL_act wsL_top := goodIn_ca (goodIn_r _ [117, 11, 12, 118, 119, 120, 16, 121, 20, 21, 85, 86, 89, 122, 123, 124, 97, 125, 99, 126, 127, 128, 129, 100, 130, 131, 132, 133, 102, 134, 135, 136, 137, 101, 103, 138, 139, 140, 141, 142, 143, 144, 145, 146, 147, 148, 149, 150, 151, 152, 153, 154, 155, 156, 157, 158, 159, 160, 161, 107, 162, 109, 110, 111, 112, 113, 114, 451, 452, 453, 454, 455, 456, 457, 458, 459, 467, 468, 469, 470, 471, 472, 473, 474, 475, 476] (by decide +kernel) (by decide +kernel)) (goodIn_sub (fun _ h => List.mem_cons_of_mem _ (List.mem_append_left _ (List.mem_append_right _ h))) (by decide +kernel))
set_option maxRecDepth 20000 in
theorem gL_act_L_top : GoodIn wsL_act (va_wsS RL 100 yL_top wsL_top) := goodIn_app (goodIn_of _ (by decide +kernel)) ggL_act_L_top
set_option maxRecDepth 20000 in
theorem ggL_act_L_bound : GoodIn wsL_act wsL_bound := goodIn_ca (goodIn_r _ [165, 36, 12, 166, 167, 168, 16, 169, 170, 85, 68, 69, 70, 47, 48, 171, 172, 173, 174, 175, 176, 177, 178, 179, 180, 181, 182, 183, 184, 97, 185, 151, 152, 99, 100, 101, 102, 103, 186, 187, 188, 189, 190, 191, 192, 193, 194, 195, 196, 197, 198, 199, 200, 201, 202, 203, 204, 205, 206, 207, 208, 209, 210, 144, 145, 146, 211, 212, 213, 214, 215, 216, 139, 140, 141, 142, 217, 218, 219, 220, 221, 148, 149, 150, 153, 154, 155, 156, 157, 158, 451, 452, 453, 454, 455, 456, 457, 458, 459, 477, 478, 479, 480, 481, 467, 468, 469, 470, 471, 472, 473] (by decide +kernel) (by decide +kernel)) (goodIn_sub (fun _ h => List.mem_cons_of_mem _ (List.mem_append_right _ h)) (by decide +kernel))
set_option maxRecDepth 20000 in
theorem gL_act_L_bound : GoodIn wsL_act (va_wsS RL 103 yL_bound wsL_bound) := goodIn_app (goodIn_of _ (by decide +kernel)) ggL_act_L_bound
set_option maxRecDepth 20000 in
theorem ggL_act_L_life : GoodIn wsL_act wsL_life := goodIn_ca (goodIn_r _ [224, 36, 12, 225, 226, 227, 16, 228, 85, 229, 230, 68, 69, 70, 47, 48, 451, 452, 453, 454, 455, 456, 457, 458, 459, 467, 468, 469, 470, 471, 472, 473] (by decide +kernel) (by decide +kernel)) (goodIn_sub (fun _ h => List.mem_cons_of_mem _ (List.mem_append_right _ h)) (by decide +kernel))
set_option maxRecDepth 20000 in
theorem gL_act_L_life : GoodIn wsL_act (va_wsS RL 106 yL_life wsL_life) := goodIn_app (goodIn_of _ (by decide +kernel)) ggL_act_L_life
set_option maxRecDepth 20000 in
theorem ggL_act_L_put : GoodIn wsL_act wsL_put := goodIn_ca (goodIn_ca (goodIn_r _ [233, 36, 11, 12, 234, 235, 236, 16, 237, 20, 21, 42, 68, 69, 70, 47, 48, 43, 44, 45, 46, 22, 23, 238, 239, 240, 57, 241, 242, 243, 244, 245, 246, 59, 247, 248, 249, 250, 251, 252, 154, 155, 156, 253, 254, 255, 256, 451, 452, 453, 454, 455, 456, 457, 458, 459, 460, 461, 462, 463, 464, 465, 466] (by decide +kernel) (by decide +kernel)) (goodIn_sub (fun _ h => List.mem_cons_of_mem _ (List.mem_append_left _ (List.mem_append_right _ h))) (by decide +kernel))) (goodIn_sub (fun _ h => List.mem_cons_of_mem _ (List.mem_append_right _ h)) (by decide +kernel))
set_option maxRecDepth 20000 in
theorem gL_act_L_put : GoodIn wsL_act (va_wsS RL 108 yL_put wsL_put) := goodIn_app (goodIn_of _ (by decide +kernel)) ggL_act_L_put
set_option maxRecDepth 20000 in
theorem ggL_act_L_isGood : GoodIn wsL_act wsL_isGood := goodIn_ca (goodIn_ca (goodIn_r _ [259, 36, 10, 12, 260, 261, 262, 16, 263, 42, 22, 68, 69, 70, 47, 48, 49, 50, 51, 52, 18, 19, 53, 264, 265, 266, 57, 267, 242, 59, 247, 248, 249, 250, 251, 252, 154, 155, 156, 268, 91, 92, 27, 93, 32, 451, 452, 453, 454, 455, 456, 457, 458, 459, 464, 465, 466, 460, 461, 462, 463] (by decide +kernel) (by decide +kernel)) (goodIn_sub (fun _ h => List.mem_cons_of_mem _ (List.mem_append_right _ h)) (by decide +kernel))) (goodIn_sub (fun _ h => List.mem_cons_of_mem _ (List.mem_append_left _ (List.mem_append_left _ (List.mem_append_right _ h)))) (by decide +kernel))
set_option maxRecDepth 20000 in
theorem gL_act_L_isGood : GoodIn wsL_act (va_wsS RL 110 yL_isGood wsL_isGood) := goodIn_app (goodIn_of _ (by decide +kernel)) ggL_act_L_isGood
set_option maxRecDepth 20000 in
theorem ggL_act_L_draft : GoodIn wsL_act wsL_draft := goodIn_ca (goodIn_ca (goodIn_r _ [271, 10, 11, 12, 272, 273, 274, 16, 275, 18, 19, 20, 21, 276, 22, 23, 277, 278, 279, 280, 281, 282, 283, 284, 285, 286, 287, 288, 451, 452, 453, 454, 455, 456, 457, 458, 459, 460, 461, 462, 463, 482, 483, 484, 485, 486] (by decide +kernel) (by decide +kernel)) (goodIn_sub (fun _ h => List.mem_cons_of_mem _ (List.mem_append_left _ (List.mem_append_left _ (List.mem_append_right _ h)))) (by decide +kernel))) (goodIn_sub (fun _ h => List.mem_cons_of_mem _ (List.mem_append_left _ (List.mem_append_right _ h))) (by decide +kernel))
set_option maxRecDepth 20000 in
theorem gL_act_L_draft : GoodIn wsL_act (va_wsS RL 113 yL_draft wsL_draft) := goodIn_app (goodIn_of _ (by decide +kernel)) ggL_act_L_draft
set_option maxRecDepth 20000 in
theorem ggL_act_L_pick : GoodIn wsL_act wsL_pick := goodIn_ca (goodIn_ca (goodIn_r _ [291, 36, 11, 12, 292, 293, 294, 16, 295, 47, 48, 20, 21, 277, 42, 67, 296, 297, 298, 299, 281, 300, 287, 286, 301, 302, 303, 304, 305, 306, 307, 308, 284, 309, 310, 311, 312, 285, 288, 313, 314, 315, 316, 317, 318, 319, 320, 321, 451, 452, 453, 454, 455, 456, 457, 458, 459, 464, 465, 466, 482, 483, 484, 485, 486] (by decide +kernel) (by decide +kernel)) (goodIn_sub (fun _ h => List.mem_cons_of_mem _ (List.mem_append_right _ h)) (by decide +kernel))) (goodIn_sub (fun _ h => List.mem_cons_of_mem _ (List.mem_append_left _ (List.mem_append_right _ h))) (by decide +kernel))
set_option maxRecDepth 20000 in
theorem gL_act_L_pick : GoodIn wsL_act (va_wsS RL 115 yL_pick wsL_pick) := goodIn_app (goodIn_of _ (by decide +kernel)) ggL_act_L_pick
set_option maxRecDepth 20000 in
theorem ggL_act_L_offered : GoodIn wsL_act wsL_offered := goodIn_ca (goodIn_r _ [324, 36, 12, 325, 326, 327, 16, 328, 47, 48, 277, 301, 302, 303, 281, 304, 286, 287, 305, 306, 307, 308, 284, 309, 310, 311, 312, 285, 288, 313, 314, 315, 316, 451, 452, 453, 454, 455, 456, 457, 458, 459, 482, 483, 484, 485, 486] (by decide +kernel) (by decide +kernel)) (goodIn_sub (fun _ h => List.mem_cons_of_mem _ (List.mem_append_right _ h)) (by decide +kernel))
set_option maxRecDepth 20000 in
theorem gL_act_L_offered : GoodIn wsL_act (va_wsS RL 117 yL_offered wsL_offered) := goodIn_app (goodIn_of _ (by decide +kernel)) ggL_act_L_offered
set_option maxRecDepth 20000 in
theorem ggL_act_L_wish : GoodIn wsL_act wsL_wish := goodIn_ca (goodIn_ca (goodIn_r _ [331, 36, 10, 12, 332, 333, 334, 16, 335, 18, 19, 336, 68, 69, 70, 47, 48, 43, 44, 45, 46, 22, 23, 337, 338, 339, 340, 341, 342, 343, 451, 452, 453, 454, 455, 456, 457, 458, 459, 460, 461, 462, 463, 487, 488, 489, 490] (by decide +kernel) (by decide +kernel)) (goodIn_sub (fun _ h => List.mem_cons_of_mem _ (List.mem_append_left _ (List.mem_append_left _ (List.mem_append_right _ h)))) (by decide +kernel))) (goodIn_sub (fun _ h => List.mem_cons_of_mem _ (List.mem_append_right _ h)) (by decide +kernel))
set_option maxRecDepth 20000 in
theorem gL_act_L_wish : GoodIn wsL_act (va_wsS RL 119 yL_wish wsL_wish) := goodIn_app (goodIn_of _ (by decide +kernel)) ggL_act_L_wish
set_option maxRecDepth 20000 in
theorem ggL_act_X8_swap : GoodIn wsL_act wsX8_swap := goodIn_r _ [347, 336, 42, 67, 348, 349, 350, 340, 351, 352, 353, 354, 355, 356, 342, 357, 358, 359, 360, 361, 362, 363, 364, 365, 366, 367, 368, 369, 343, 370, 371, 372, 373, 374, 375, 376, 377, 378, 338, 339, 341, 451, 452, 453, 454, 455, 456, 457, 458, 459, 464, 465, 466, 487, 488, 489, 490] (by decide +kernel) (by decide +kernel)
set_option maxRecDepth 20000 in
theorem gL_act_X8_swap : GoodIn wsL_act (wsV RL 121 RX8 yX8_swap wsX8_swap) := goodIn_app (goodIn_of _ (by decide +kernel)) ggL_act_X8_swap
set_option maxRecDepth 20000 in
theorem ggL_act_L_has : GoodIn wsL_act wsL_has := goodIn_ca (goodIn_r _ [381, 36, 12, 382, 383, 384, 16, 385, 42, 67, 68, 69, 70, 47, 48, 43, 44, 45, 46, 22, 23, 451, 452, 453, 454, 455, 456, 457, 458, 459, 464, 465, 466, 460, 461, 462, 463] (by decide +kernel) (by decide +kernel)) (goodIn_sub (fun _ h => List.mem_cons_of_mem _ (List.mem_append_right _ h)) (by decide +kernel))
set_option maxRecDepth 20000 in
theorem gL_act_L_has : GoodIn wsL_act (va_wsS RL 124 yL_has wsL_has) := goodIn_app (goodIn_of _ (by decide +kernel)) ggL_act_L_has
set_option maxRecDepth 20000 in
theorem ggL_act_L_ring : GoodIn wsL_act wsL_ring := goodIn_ca (goodIn_r _ [388, 36, 12, 389, 390, 391, 16, 392, 47, 48, 336, 42, 67, 393, 348, 349, 350, 340, 351, 352, 353, 354, 355, 356, 342, 357, 358, 359, 360, 361, 362, 363, 364, 365, 366, 367, 368, 369, 343, 370, 371, 372, 373, 451, 452, 453, 454, 455, 456, 457, 458, 459, 464, 465, 466, 487, 488, 489, 490] (by decide +kernel) (by decide +kernel)) (goodIn_sub (fun _ h => List.mem_cons_of_mem _ (List.mem_append_right _ h)) (by decide +kernel))
set_option maxRecDepth 20000 in
theorem gL_act_L_ring : GoodIn wsL_act (va_wsS RL 126 yL_ring wsL_ring) := goodIn_app (goodIn_of _ (by decide +kernel)) ggL_act_L_ring
set_option maxRecDepth 20000 in
theorem ggL_act_L_pair : GoodIn wsL_act wsL_pair := goodIn_ca (goodIn_ca (goodIn_r _ [396, 36, 10, 12, 397, 398, 399, 16, 400, 18, 19, 401, 68, 69, 70, 47, 48, 402, 403, 404, 405, 406, 407, 408, 409, 410, 411, 412, 413, 414, 415, 416, 417, 418, 419, 420, 421, 422, 423, 424, 425, 426, 427, 451, 452, 453, 454, 455, 456, 457, 458, 459, 491, 492, 493, 494, 495] (by decide +kernel) (by decide +kernel)) (goodIn_sub (fun _ h => List.mem_cons_of_mem _ (List.mem_append_left _ (List.mem_append_left _ (List.mem_append_right _ h)))) (by decide +kernel))) (goodIn_sub (fun _ h => List.mem_cons_of_mem _ (List.mem_append_right _ h)) (by decide +kernel))
set_option maxRecDepth 20000 in
theorem gL_act_L_pair : GoodIn wsL_act (va_wsS RL 128 yL_pair wsL_pair) := goodIn_app (goodIn_of _ (by decide +kernel)) ggL_act_L_pair
set_option maxRecDepth 20000 in
theorem ggL_act_L_result : GoodIn wsL_act wsL_result := goodIn_ca (goodIn_ca (goodIn_r _ [430, 36, 10, 12, 431, 432, 433, 16, 434, 18, 19, 401, 68, 69, 70, 47, 48, 435, 436, 437, 405, 438, 417, 439, 154, 155, 156, 440, 441, 442, 427, 451, 452, 453, 454, 455, 456, 457, 458, 459, 491, 492, 493, 494, 495] (by decide +kernel) (by decide +kernel)) (goodIn_sub (fun _ h => List.mem_cons_of_mem _ (List.mem_append_left _ (List.mem_append_left _ (List.mem_append_right _ h)))) (by decide +kernel))) (goodIn_sub (fun _ h => List.mem_cons_of_mem _ (List.mem_append_right _ h)) (by decide +kernel))
set_option maxRecDepth 20000 in
theorem gL_act_L_result : GoodIn wsL_act (va_wsS RL 130 yL_result wsL_result) := goodIn_app (goodIn_of _ (by decide +kernel)) ggL_act_L_result
set_option maxRecDepth 20000 in
theorem ggL_act_L_strength : GoodIn wsL_act wsL_strength := goodIn_ca (goodIn_r _ [445, 36, 12, 446, 447, 448, 16, 449, 401, 450, 68, 69, 70, 47, 48, 451, 452, 453, 454, 455, 456, 457, 458, 459, 491, 492, 493, 494, 495] (by decide +kernel) (by decide +kernel)) (goodIn_sub (fun _ h => List.mem_cons_of_mem _ (List.mem_append_right _ h)) (by decide +kernel))
set_option maxRecDepth 20000 in
theorem gL_act_L_strength : GoodIn wsL_act (va_wsS RL 132 yL_strength wsL_strength) := goodIn_app (goodIn_of _ (by decide +kernel)) ggL_act_L_strength
theorem dL_act_0 : decode cL_act 0 = .ok (.iload_n 1, 1) := by decide +kernel
theorem dL_act_1 : decode cL_act 1 = .ok (.bipush 26, 2) := by decide +kernel
theorem dL_act_3 : decode cL_act 3 = .ok (.ishr, 1) := by decide +kernel
theorem dL_act_4 : decode cL_act 4 = .ok (.bipush 14, 2) := by decide +kernel
theorem dL_act_6 : decode cL_act 6 = .ok (.invokestatic 82, 3) := by decide +kernel
theorem dL_act_9 : decode cL_act 9 = .ok (.ifCond .ne 7, 3) := by decide +kernel
theorem dL_act_12 : decode cL_act 12 = .ok (.iconst 1, 1) := by decide +kernel
theorem dL_act_13 : decode cL_act 13 = .ok (.goto 4, 3) := by decide +kernel
theorem dL_act_16 : decode cL_act 16 = .ok (.iconst 0, 1) := by decide +kernel
theorem dL_act_17 : decode cL_act 17 = .ok (.istore_n 3, 1) := by decide +kernel
theorem dL_act_18 : decode cL_act 18 = .ok (.iload_n 3, 1) := by decide +kernel
theorem dL_act_19 : decode cL_act 19 = .ok (.ifCond .eq 16, 3) := by decide +kernel
theorem dL_act_22 : decode cL_act 22 = .ok (.iload_n 1, 1) := by decide +kernel
theorem dL_act_23 : decode cL_act 23 = .ok (.iconst 5, 1) := by decide +kernel
theorem dL_act_24 : decode cL_act 24 = .ok (.ishr, 1) := by decide +kernel
theorem dL_act_25 : decode cL_act 25 = .ok (.bipush 9, 2) := by decide +kernel
theorem dL_act_27 : decode cL_act 27 = .ok (.invokestatic 82, 3) := by decide +kernel
theorem dL_act_30 : decode cL_act 30 = .ok (.iconst 1, 1) := by decide +kernel
theorem dL_act_31 : decode cL_act 31 = .ok (.isub, 1) := by decide +kernel
theorem dL_act_32 : decode cL_act 32 = .ok (.goto 11, 3) := by decide +kernel
theorem dL_act_35 : decode cL_act 35 = .ok (.iload_n 1, 1) := by decide +kernel
theorem dL_act_36 : decode cL_act 36 = .ok (.iconst 5, 1) := by decide +kernel
theorem dL_act_37 : decode cL_act 37 = .ok (.ishr, 1) := by decide +kernel
theorem dL_act_38 : decode cL_act 38 = .ok (.bipush 6, 2) := by decide +kernel
theorem dL_act_40 : decode cL_act 40 = .ok (.invokestatic 82, 3) := by decide +kernel
theorem dL_act_43 : decode cL_act 43 = .ok (.istore 4, 2) := by decide +kernel
theorem dL_act_45 : decode cL_act 45 = .ok (.iload_n 3, 1) := by decide +kernel
theorem dL_act_46 : decode cL_act 46 = .ok (.ifCond .eq 17, 3) := by decide +kernel
theorem dL_act_49 : decode cL_act 49 = .ok (.iload_n 1, 1) := by decide +kernel
theorem dL_act_50 : decode cL_act 50 = .ok (.bipush 8, 2) := by decide +kernel
theorem dL_act_52 : decode cL_act 52 = .ok (.ishr, 1) := by decide +kernel
theorem dL_act_53 : decode cL_act 53 = .ok (.bipush 9, 2) := by decide +kernel
theorem dL_act_55 : decode cL_act 55 = .ok (.invokestatic 82, 3) := by decide +kernel
theorem dL_act_58 : decode cL_act 58 = .ok (.iconst 1, 1) := by decide +kernel
theorem dL_act_59 : decode cL_act 59 = .ok (.isub, 1) := by decide +kernel
theorem dL_act_60 : decode cL_act 60 = .ok (.goto 12, 3) := by decide +kernel
theorem dL_act_63 : decode cL_act 63 = .ok (.iload_n 1, 1) := by decide +kernel
theorem dL_act_64 : decode cL_act 64 = .ok (.bipush 8, 2) := by decide +kernel
theorem dL_act_66 : decode cL_act 66 = .ok (.ishr, 1) := by decide +kernel
theorem dL_act_67 : decode cL_act 67 = .ok (.bipush 6, 2) := by decide +kernel
theorem dL_act_69 : decode cL_act 69 = .ok (.invokestatic 82, 3) := by decide +kernel
theorem dL_act_72 : decode cL_act 72 = .ok (.istore 5, 2) := by decide +kernel
theorem dL_act_74 : decode cL_act 74 = .ok (.iload_n 3, 1) := by decide +kernel
theorem dL_act_75 : decode cL_act 75 = .ok (.ifCond .eq 17, 3) := by decide +kernel
theorem dL_act_78 : decode cL_act 78 = .ok (.iload_n 1, 1) := by decide +kernel
theorem dL_act_79 : decode cL_act 79 = .ok (.bipush 11, 2) := by decide +kernel
theorem dL_act_81 : decode cL_act 81 = .ok (.ishr, 1) := by decide +kernel
theorem dL_act_82 : decode cL_act 82 = .ok (.bipush 24, 2) := by decide +kernel
theorem dL_act_84 : decode cL_act 84 = .ok (.invokestatic 82, 3) := by decide +kernel
theorem dL_act_87 : decode cL_act 87 = .ok (.iconst 2, 1) := by decide +kernel
theorem dL_act_88 : decode cL_act 88 = .ok (.isub, 1) := by decide +kernel
theorem dL_act_89 : decode cL_act 89 = .ok (.goto 11, 3) := by decide +kernel
theorem dL_act_92 : decode cL_act 92 = .ok (.iload_n 1, 1) := by decide +kernel
theorem dL_act_93 : decode cL_act 93 = .ok (.bipush 11, 2) := by decide +kernel
theorem dL_act_95 : decode cL_act 95 = .ok (.ishr, 1) := by decide +kernel
theorem dL_act_96 : decode cL_act 96 = .ok (.iconst 5, 1) := by decide +kernel
theorem dL_act_97 : decode cL_act 97 = .ok (.invokestatic 82, 3) := by decide +kernel
theorem dL_act_100 : decode cL_act 100 = .ok (.istore 6, 2) := by decide +kernel
theorem dL_act_102 : decode cL_act 102 = .ok (.iload_n 3, 1) := by decide +kernel
theorem dL_act_103 : decode cL_act 103 = .ok (.ifCond .eq 17, 3) := by decide +kernel
theorem dL_act_106 : decode cL_act 106 = .ok (.iload_n 1, 1) := by decide +kernel
theorem dL_act_107 : decode cL_act 107 = .ok (.bipush 14, 2) := by decide +kernel
theorem dL_act_109 : decode cL_act 109 = .ok (.ishr, 1) := by decide +kernel
theorem dL_act_110 : decode cL_act 110 = .ok (.bipush 24, 2) := by decide +kernel
theorem dL_act_112 : decode cL_act 112 = .ok (.invokestatic 82, 3) := by decide +kernel
theorem dL_act_115 : decode cL_act 115 = .ok (.iconst 2, 1) := by decide +kernel
theorem dL_act_116 : decode cL_act 116 = .ok (.isub, 1) := by decide +kernel
theorem dL_act_117 : decode cL_act 117 = .ok (.goto 11, 3) := by decide +kernel
theorem dL_act_120 : decode cL_act 120 = .ok (.iload_n 1, 1) := by decide +kernel
theorem dL_act_121 : decode cL_act 121 = .ok (.bipush 14, 2) := by decide +kernel
theorem dL_act_123 : decode cL_act 123 = .ok (.ishr, 1) := by decide +kernel
theorem dL_act_124 : decode cL_act 124 = .ok (.iconst 5, 1) := by decide +kernel
theorem dL_act_125 : decode cL_act 125 = .ok (.invokestatic 82, 3) := by decide +kernel
theorem dL_act_128 : decode cL_act 128 = .ok (.istore 7, 2) := by decide +kernel
theorem dL_act_130 : decode cL_act 130 = .ok (.iload_n 3, 1) := by decide +kernel
theorem dL_act_131 : decode cL_act 131 = .ok (.ifCond .eq 10, 3) := by decide +kernel
theorem dL_act_134 : decode cL_act 134 = .ok (.iload_n 1, 1) := by decide +kernel
theorem dL_act_135 : decode cL_act 135 = .ok (.bipush 9, 2) := by decide +kernel
theorem dL_act_137 : decode cL_act 137 = .ok (.ishr, 1) := by decide +kernel
theorem dL_act_138 : decode cL_act 138 = .ok (.goto 14, 3) := by decide +kernel
theorem dL_act_141 : decode cL_act 141 = .ok (.iconst 1, 1) := by decide +kernel
theorem dL_act_142 : decode cL_act 142 = .ok (.iload_n 1, 1) := by decide +kernel
theorem dL_act_143 : decode cL_act 143 = .ok (.bipush 9, 2) := by decide +kernel
theorem dL_act_145 : decode cL_act 145 = .ok (.ishr, 1) := by decide +kernel
theorem dL_act_146 : decode cL_act 146 = .ok (.bipush 9, 2) := by decide +kernel
theorem dL_act_148 : decode cL_act 148 = .ok (.invokestatic 82, 3) := by decide +kernel
theorem dL_act_151 : decode cL_act 151 = .ok (.iadd, 1) := by decide +kernel
theorem dL_act_152 : decode cL_act 152 = .ok (.istore 8, 2) := by decide +kernel
theorem dL_act_154 : decode cL_act 154 = .ok (.iload_n 1, 1) := by decide +kernel
theorem dL_act_155 : decode cL_act 155 = .ok (.bipush 34, 2) := by decide +kernel
theorem dL_act_157 : decode cL_act 157 = .ok (.invokestatic 82, 3) := by decide +kernel
theorem dL_act_160 : decode cL_act 160 = .ok (.tableswitch 548 0 31 #[144, 144, 144, 169, 194, 194, 194, 194, 205, 229, 229, 229, 229, 229, 240, 240, 240, 245, 299, 299, 308, 336, 395, 395, 395, 417, 439, 439, 450, 473, 514, 539], 144) := by decide +kernel
theorem dL_act_304 : decode cL_act 304 = .ok (.aload_n 0, 1) := by decide +kernel
theorem dL_act_305 : decode cL_act 305 = .ok (.iload_n 3, 1) := by decide +kernel
theorem dL_act_306 : decode cL_act 306 = .ok (.ifCond .eq 8, 3) := by decide +kernel
theorem dL_act_309 : decode cL_act 309 = .ok (.iload 5, 2) := by decide +kernel
theorem dL_act_311 : decode cL_act 311 = .ok (.goto 12, 3) := by decide +kernel
theorem dL_act_314 : decode cL_act 314 = .ok (.iload_n 1, 1) := by decide +kernel
theorem dL_act_315 : decode cL_act 315 = .ok (.bipush 8, 2) := by decide +kernel
theorem dL_act_317 : decode cL_act 317 = .ok (.ishr, 1) := by decide +kernel
theorem dL_act_318 : decode cL_act 318 = .ok (.bipush 6, 2) := by decide +kernel
theorem dL_act_320 : decode cL_act 320 = .ok (.invokestatic 82, 3) := by decide +kernel
theorem dL_act_323 : decode cL_act 323 = .ok (.iload 8, 2) := by decide +kernel
theorem dL_act_325 : decode cL_act 325 = .ok (.invokestatic 87, 3) := by decide +kernel
theorem dL_act_328 : decode cL_act 328 = .ok (.lreturn, 1) := by decide +kernel
theorem dL_act_329 : decode cL_act 329 = .ok (.aload_n 0, 1) := by decide +kernel
theorem dL_act_330 : decode cL_act 330 = .ok (.iload 6, 2) := by decide +kernel
theorem dL_act_332 : decode cL_act 332 = .ok (.iload_n 3, 1) := by decide +kernel
theorem dL_act_333 : decode cL_act 333 = .ok (.ifCond .eq 8, 3) := by decide +kernel
