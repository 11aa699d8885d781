set_option maxRecDepth 20000 in
theorem gL_close_X8_close : GoodIn wsL_close (wsV RL 31 RX8 yX8_close wsX8_close) := goodIn_app (goodIn_of _ (by decide +kernel)) ggL_close_X8_close
theorem dL_close_0 : decode cL_close 0 = .ok (.aload_n 0, 1) := by decide +kernel
theorem dL_close_1 : decode cL_close 1 = .ok (.iload_n 1, 1) := by decide +kernel
theorem dL_close_2 : decode cL_close 2 = .ok (.invokevirtual 31, 3) := by decide +kernel
theorem dL_close_5 : decode cL_close 5 = .ok (.ireturn, 1) := by decide +kernel
theorem dL_close_6 : decode cL_close 6 = .ok (.astore_n 2, 1) := by decide +kernel
theorem dL_close_7 : decode cL_close 7 = .ok (.ldc 17, 2) := by decide +kernel
theorem dL_close_9 : decode cL_close 9 = .ok (.ireturn, 1) := by decide +kernel
theorem dL_close_10 : decode cL_close 10 = .ok (.astore_n 2, 1) := by decide +kernel
theorem dL_close_11 : decode cL_close 11 = .ok (.ldc 26, 2) := by decide +kernel
theorem dL_close_13 : decode cL_close 13 = .ok (.ireturn, 1) := by decide +kernel
theorem dL_close_14 : decode cL_close 14 = .ok (.astore_n 2, 1) := by decide +kernel
theorem dL_close_15 : decode cL_close 15 = .ok (.ldc 30, 2) := by decide +kernel
theorem dL_close_17 : decode cL_close 17 = .ok (.ireturn, 1) := by decide +kernel
set_option maxRecDepth 20000 in
theorem ggL_open_X8_open : GoodIn wsL_open wsX8_open := goodIn_ca (goodIn_ca (goodIn_r _ [9, 10, 11, 12, 13, 14, 15, 16, 8, 17, 18, 19, 20, 21, 22, 23, 24, 25, 26, 27, 28, 29, 30, 31, 32, 33, 34, 35, 36, 37, 38, 39, 40, 41, 42, 43, 44, 45, 46, 47, 48, 49, 50, 51, 52, 53, 54, 55, 56, 57, 58, 59, 60, 61, 62, 63, 64, 65] (by decide +kernel) (by decide +kernel)) (goodIn_sub (fun _ h => List.mem_cons_of_mem _ (List.mem_append_left _ (List.mem_append_right _ h))) (by decide +kernel))) (goodIn_sub (fun _ h => List.mem_cons_of_mem _ (List.mem_append_right _ h)) (by decide +kernel))
set_option maxRecDepth 20000 in
theorem gL_open_X8_open : GoodIn wsL_open (wsV RL 37 RX8 yX8_open wsX8_open) := goodIn_app (goodIn_of _ (by decide +kernel)) ggL_open_X8_open
theorem dL_open_0 : decode cL_open 0 = .ok (.aload_n 0, 1) := by decide +kernel
theorem dL_open_1 : decode cL_open 1 = .ok (.iload_n 1, 1) := by decide +kernel
theorem dL_open_2 : decode cL_open 2 = .ok (.invokevirtual 37, 3) := by decide +kernel
theorem dL_open_5 : decode cL_open 5 = .ok (.ireturn, 1) := by decide +kernel
theorem dL_open_6 : decode cL_open 6 = .ok (.astore_n 2, 1) := by decide +kernel
theorem dL_open_7 : decode cL_open 7 = .ok (.ldc 17, 2) := by decide +kernel
theorem dL_open_9 : decode cL_open 9 = .ok (.ireturn, 1) := by decide +kernel
theorem dL_open_10 : decode cL_open 10 = .ok (.astore_n 2, 1) := by decide +kernel
theorem dL_open_11 : decode cL_open 11 = .ok (.ldc 26, 2) := by decide +kernel
theorem dL_open_13 : decode cL_open 13 = .ok (.ireturn, 1) := by decide +kernel
set_option maxRecDepth 20000 in
theorem ggL_tie_X8_tie : GoodIn wsL_tie wsX8_tie := goodIn_ca (goodIn_ca (goodIn_ca (goodIn_r _ [11, 12, 13, 14, 15, 16, 17, 18, 19, 20, 21, 22, 23, 24, 25, 26, 27, 28, 29, 30, 31, 32, 33, 34, 35, 36, 37, 38, 39, 40, 41, 42, 43, 44, 45, 46, 47, 48, 49, 50, 51, 52, 53, 54, 55, 56, 57, 58, 59, 60, 61, 62, 63, 64, 65] (by decide +kernel) (by decide +kernel)) (goodIn_sub (fun _ h => List.mem_cons_of_mem _ (List.mem_append_left _ (List.mem_append_left _ (List.mem_append_right _ h)))) (by decide +kernel))) (goodIn_sub (fun _ h => List.mem_cons_of_mem _ (List.mem_append_left _ (List.mem_append_right _ h))) (by decide +kernel))) (goodIn_sub (fun _ h => List.mem_cons_of_mem _ (List.mem_append_right _ h)) (by decide +kernel))
set_option maxRecDepth 20000 in
theorem gL_tie_X8_tie : GoodIn wsL_tie (wsV RL 40 RX8 yX8_tie wsX8_tie) := goodIn_app (goodIn_of _ (by decide +kernel)) ggL_tie_X8_tie
theorem dL_tie_0 : decode cL_tie 0 = .ok (.aload_n 0, 1) := by decide +kernel
theorem dL_tie_1 : decode cL_tie 1 = .ok (.invokevirtual 40, 3) := by decide +kernel
theorem dL_tie_4 : decode cL_tie 4 = .ok (.ireturn, 1) := by decide +kernel
theorem dL_tie_5 : decode cL_tie 5 = .ok (.astore_n 1, 1) := by decide +kernel
theorem dL_tie_6 : decode cL_tie 6 = .ok (.ldc 17, 2) := by decide +kernel
theorem dL_tie_8 : decode cL_tie 8 = .ok (.ireturn, 1) := by decide +kernel
theorem dL_tie_9 : decode cL_tie 9 = .ok (.astore_n 1, 1) := by decide +kernel
theorem dL_tie_10 : decode cL_tie 10 = .ok (.ldc 26, 2) := by decide +kernel
theorem dL_tie_12 : decode cL_tie 12 = .ok (.ireturn, 1) := by decide +kernel
theorem dL_tie_13 : decode cL_tie 13 = .ok (.astore_n 1, 1) := by decide +kernel
theorem dL_tie_14 : decode cL_tie 14 = .ok (.ldc 30, 2) := by decide +kernel
theorem dL_tie_16 : decode cL_tie 16 = .ok (.ireturn, 1) := by decide +kernel
set_option maxRecDepth 20000 in
theorem ggL_untie_X8_untie : GoodIn wsL_untie wsX8_untie := goodIn_ca (goodIn_r _ [7, 8, 9, 10, 11, 12, 13, 14, 15, 16, 17, 18, 19, 20, 21, 22, 23, 24, 25, 26, 27, 28, 29, 30, 31, 32, 33, 34, 35, 36] (by decide +kernel) (by decide +kernel)) (goodIn_sub (fun _ h => List.mem_cons_of_mem _ (List.mem_append_right _ h)) (by decide +kernel))
set_option maxRecDepth 20000 in
theorem gL_untie_X8_untie : GoodIn wsL_untie (wsV RL 45 RX8 yX8_untie wsX8_untie) := goodIn_app (goodIn_of _ (by decide +kernel)) ggL_untie_X8_untie
theorem dL_untie_0 : decode cL_untie 0 = .ok (.aload_n 0, 1) := by decide +kernel
theorem dL_untie_1 : decode cL_untie 1 = .ok (.invokevirtual 45, 3) := by decide +kernel
theorem dL_untie_4 : decode cL_untie 4 = .ok (.ireturn, 1) := by decide +kernel
theorem dL_untie_5 : decode cL_untie 5 = .ok (.astore_n 1, 1) := by decide +kernel
theorem dL_untie_6 : decode cL_untie 6 = .ok (.ldc 17, 2) := by decide +kernel
theorem dL_untie_8 : decode cL_untie 8 = .ok (.ireturn, 1) := by decide +kernel
set_option maxRecDepth 20000 in
theorem ggL_addGenerator_X8_addGenerator : GoodIn wsL_addGenerator wsX8_addGenerator := goodIn_ca (goodIn_ca (goodIn_ca (goodIn_r _ [11, 12, 13, 14, 15, 16, 17, 18, 19, 20, 21, 22, 23, 24, 25, 10, 26, 27, 28, 29, 30, 31, 32, 33, 34, 35, 36, 37, 38, 39, 40, 41, 42, 43, 44, 45, 46, 47, 48, 49, 50, 51, 52, 53, 54, 55, 56, 57, 58, 59, 60, 61, 62, 63, 64, 65, 66, 67, 68, 69, 70, 71, 72, 73, 74, 75, 76, 77, 78, 79, 80, 81, 82, 83, 84, 85, 86, 87, 88] (by decide +kernel) (by decide +kernel)) (goodIn_sub (fun _ h => List.mem_cons_of_mem _ (List.mem_append_left _ (List.mem_append_left _ (List.mem_append_right _ h)))) (by decide +kernel))) (goodIn_sub (fun _ h => List.mem_cons_of_mem _ (List.mem_append_left _ (List.mem_append_right _ h))) (by decide +kernel))) (goodIn_sub (fun _ h => List.mem_cons_of_mem _ (List.mem_append_right _ h)) (by decide +kernel))
set_option maxRecDepth 20000 in
theorem gL_addGenerator_X8_addGenerator : GoodIn wsL_addGenerator (wsV RL 54 RX8 yX8_addGenerator wsX8_addGenerator) := goodIn_app (goodIn_of _ (by decide +kernel)) ggL_addGenerator_X8_addGenerator
theorem dL_addGenerator_0 : decode cL_addGenerator 0 = .ok (.aload_n 0, 1) := by decide +kernel
theorem dL_addGenerator_1 : decode cL_addGenerator 1 = .ok (.iload_n 1, 1) := by decide +kernel
theorem dL_addGenerator_2 : decode cL_addGenerator 2 = .ok (.iload_n 2, 1) := by decide +kernel
theorem dL_addGenerator_3 : decode cL_addGenerator 3 = .ok (.iload_n 3, 1) := by decide +kernel
theorem dL_addGenerator_4 : decode cL_addGenerator 4 = .ok (.iload 4, 2) := by decide +kernel
theorem dL_addGenerator_6 : decode cL_addGenerator 6 = .ok (.iload 5, 2) := by decide +kernel
theorem dL_addGenerator_8 : decode cL_addGenerator 8 = .ok (.invokevirtual 54, 3) := by decide +kernel
theorem dL_addGenerator_11 : decode cL_addGenerator 11 = .ok (.ireturn, 1) := by decide +kernel
theorem dL_addGenerator_12 : decode cL_addGenerator 12 = .ok (.astore 6, 2) := by decide +kernel
theorem dL_addGenerator_14 : decode cL_addGenerator 14 = .ok (.ldc 17, 2) := by decide +kernel
theorem dL_addGenerator_16 : decode cL_addGenerator 16 = .ok (.ireturn, 1) := by decide +kernel
theorem dL_addGenerator_17 : decode cL_addGenerator 17 = .ok (.astore 6, 2) := by decide +kernel
theorem dL_addGenerator_19 : decode cL_addGenerator 19 = .ok (.ldc 26, 2) := by decide +kernel
theorem dL_addGenerator_21 : decode cL_addGenerator 21 = .ok (.ireturn, 1) := by decide +kernel
theorem dL_addGenerator_22 : decode cL_addGenerator 22 = .ok (.astore 6, 2) := by decide +kernel
theorem dL_addGenerator_24 : decode cL_addGenerator 24 = .ok (.ldc 30, 2) := by decide +kernel
theorem dL_addGenerator_26 : decode cL_addGenerator 26 = .ok (.ireturn, 1) := by decide +kernel
set_option maxRecDepth 20000 in
theorem ggL_start_X8_start : GoodIn wsL_start wsX8_start := goodIn_ca (goodIn_ca (goodIn_ca (goodIn_r _ [11, 12, 13, 14, 15, 16, 17, 18, 19, 20, 10, 21, 22, 23, 24, 25, 26, 27, 28, 29, 30, 31, 32, 33, 34, 35, 36, 37, 38, 39, 40, 41, 42, 43, 44, 45, 46, 47, 48, 49, 50, 51, 52, 53, 54, 55, 56, 57, 58, 59, 60, 61, 62, 63, 64] (by decide +kernel) (by decide +kernel)) (goodIn_sub (fun _ h => List.mem_cons_of_mem _ (List.mem_append_left _ (List.mem_append_left _ (List.mem_append_right _ h)))) (by decide +kernel))) (goodIn_sub (fun _ h => List.mem_cons_of_mem _ (List.mem_append_left _ (List.mem_append_right _ h))) (by decide +kernel))) (goodIn_sub (fun _ h => List.mem_cons_of_mem _ (List.mem_append_right _ h)) (by decide +kernel))
set_option maxRecDepth 20000 in
theorem gL_start_X8_start : GoodIn wsL_start (wsV RL 58 RX8 yX8_start wsX8_start) := goodIn_app (goodIn_of _ (by decide +kernel)) ggL_start_X8_start
theorem dL_start_0 : decode cL_start 0 = .ok (.aload_n 0, 1) := by decide +kernel
theorem dL_start_1 : decode cL_start 1 = .ok (.iload_n 1, 1) := by decide +kernel
theorem dL_start_2 : decode cL_start 2 = .ok (.invokevirtual 58, 3) := by decide +kernel
theorem dL_start_5 : decode cL_start 5 = .ok (.ireturn, 1) := by decide +kernel
theorem dL_start_6 : decode cL_start 6 = .ok (.astore_n 2, 1) := by decide +kernel
theorem dL_start_7 : decode cL_start 7 = .ok (.ldc 17, 2) := by decide +kernel
theorem dL_start_9 : decode cL_start 9 = .ok (.ireturn, 1) := by decide +kernel
theorem dL_start_10 : decode cL_start 10 = .ok (.astore_n 2, 1) := by decide +kernel
theorem dL_start_11 : decode cL_start 11 = .ok (.ldc 26, 2) := by decide +kernel
theorem dL_start_13 : decode cL_start 13 = .ok (.ireturn, 1) := by decide +kernel
theorem dL_start_14 : decode cL_start 14 = .ok (.astore_n 2, 1) := by decide +kernel
theorem dL_start_15 : decode cL_start 15 = .ok (.ldc 30, 2) := by decide +kernel
theorem dL_start_17 : decode cL_start 17 = .ok (.ireturn, 1) := by decide +kernel
set_option maxRecDepth 20000 in
theorem ggL_stop_X8_stop : GoodIn wsL_stop wsX8_stop := goodIn_ca (goodIn_ca (goodIn_r _ [9, 10, 11, 12, 13, 14, 15, 16, 8, 17, 18, 19, 20, 21, 22, 23, 24, 25, 26, 27, 28, 29, 30, 31, 32, 33, 34, 35, 36, 37, 38, 39, 40, 41, 42, 43, 44, 45, 46, 47, 48, 49, 50, 51, 52] (by decide +kernel) (by decide +kernel)) (goodIn_sub (fun _ h => List.mem_cons_of_mem _ (List.mem_append_left _ (List.mem_append_right _ h))) (by decide +kernel))) (goodIn_sub (fun _ h => List.mem_cons_of_mem _ (List.mem_append_right _ h)) (by decide +kernel))
set_option maxRecDepth 20000 in
theorem gL_stop_X8_stop : GoodIn wsL_stop (wsV RL 61 RX8 yX8_stop wsX8_stop) := goodIn_app (goodIn_of _ (by decide +kernel)) ggL_stop_X8_stop
theorem dL_stop_0 : decode cL_stop 0 = .ok (.aload_n 0, 1) := by decide +kernel
theorem dL_stop_1 : decode cL_stop 1 = .ok (.iload_n 1, 1) := by decide +kernel
theorem dL_stop_2 : decode cL_stop 2 = .ok (.invokevirtual 61, 3) := by decide +kernel
theorem dL_stop_5 : decode cL_stop 5 = .ok (.ireturn, 1) := by decide +kernel
theorem dL_stop_6 : decode cL_stop 6 = .ok (.astore_n 2, 1) := by decide +kernel
theorem dL_stop_7 : decode cL_stop 7 = .ok (.ldc 17, 2) := by decide +kernel
theorem dL_stop_9 : decode cL_stop 9 = .ok (.ireturn, 1) := by decide +kernel
theorem dL_stop_10 : decode cL_stop 10 = .ok (.astore_n 2, 1) := by decide +kernel
theorem dL_stop_11 : decode cL_stop 11 = .ok (.ldc 26, 2) := by decide +kernel
theorem dL_stop_13 : decode cL_stop 13 = .ok (.ireturn, 1) := by decide +kernel
set_option maxRecDepth 20000 in
theorem ggL_startNext_X8_startNext : GoodIn wsL_startNext wsX8_startNext := goodIn_ca (goodIn_ca (goodIn_r _ [9, 10, 11, 12, 13, 14, 15, 16, 17, 18, 8, 19, 20, 21, 22, 23, 24, 25, 26, 27, 28, 29, 30, 31, 32, 33, 34, 35, 36, 37, 38, 39, 40, 41, 42, 43, 44, 45, 46, 47, 48, 49, 50, 51, 52, 53, 54, 55, 56, 57, 58, 59, 60, 61, 62, 63, 64, 65, 66, 67, 68, 69, 70, 71, 72, 73, 74, 75, 76, 77, 78, 79, 80, 81, 82, 83, 84, 85, 86] (by decide +kernel) (by decide +kernel)) (goodIn_sub (fun _ h => List.mem_cons_of_mem _ (List.mem_append_left _ (List.mem_append_right _ h))) (by decide +kernel))) (goodIn_sub (fun _ h => List.mem_cons_of_mem _ (List.mem_append_right _ h)) (by decide +kernel))
set_option maxRecDepth 20000 in
theorem gL_startNext_X8_startNext : GoodIn wsL_startNext (wsV RL 64 RX8 yX8_startNext wsX8_startNext) := goodIn_app (goodIn_of _ (by decide +kernel)) ggL_startNext_X8_startNext
theorem dL_startNext_0 : decode cL_startNext 0 = .ok (.aload_n 0, 1) := by decide +kernel
theorem dL_startNext_1 : decode cL_startNext 1 = .ok (.iload_n 1, 1) := by decide +kernel
theorem dL_startNext_2 : decode cL_startNext 2 = .ok (.invokevirtual 64, 3) := by decide +kernel
theorem dL_startNext_5 : decode cL_startNext 5 = .ok (.ireturn, 1) := by decide +kernel
theorem dL_startNext_6 : decode cL_startNext 6 = .ok (.astore_n 2, 1) := by decide +kernel
theorem dL_startNext_7 : decode cL_startNext 7 = .ok (.ldc 17, 2) := by decide +kernel
theorem dL_startNext_9 : decode cL_startNext 9 = .ok (.ireturn, 1) := by decide +kernel
theorem dL_startNext_10 : decode cL_startNext 10 = .ok (.astore_n 2, 1) := by decide +kernel
theorem dL_startNext_11 : decode cL_startNext 11 = .ok (.ldc 26, 2) := by decide +kernel
theorem dL_startNext_13 : decode cL_startNext 13 = .ok (.ireturn, 1) := by decide +kernel
set_option maxRecDepth 20000 in
theorem ggL_refuel_X8_refuel : GoodIn wsL_refuel wsX8_refuel := goodIn_ca (goodIn_ca (goodIn_ca (goodIn_r _ [11, 12, 13, 14, 15, 16, 17, 18, 10, 19, 20, 21, 22, 23, 24, 25, 26, 27, 28, 29, 30, 31, 32, 33, 34, 35, 36, 37, 38, 39, 40, 41, 42, 43, 44, 45, 46, 47, 48, 49, 50, 51, 52, 53] (by decide +kernel) (by decide +kernel)) (goodIn_sub (fun _ h => List.mem_cons_of_mem _ (List.mem_append_left _ (List.mem_append_left _ (List.mem_append_right _ h)))) (by decide +kernel))) (goodIn_sub (fun _ h => List.mem_cons_of_mem _ (List.mem_append_left _ (List.mem_append_right _ h))) (by decide +kernel))) (goodIn_sub (fun _ h => List.mem_cons_of_mem _ (List.mem_append_right _ h)) (by decide +kernel))
set_option maxRecDepth 20000 in
theorem gL_refuel_X8_refuel : GoodIn wsL_refuel (wsV RL 67 RX8 yX8_refuel wsX8_refuel) := goodIn_app (goodIn_of _ (by decide +kernel)) ggL_refuel_X8_refuel
theorem dL_refuel_0 : decode cL_refuel 0 = .ok (.aload_n 0, 1) := by decide +kernel
theorem dL_refuel_1 : decode cL_refuel 1 = .ok (.iload_n 1, 1) := by decide +kernel
theorem dL_refuel_2 : decode cL_refuel 2 = .ok (.iload_n 2, 1) := by decide +kernel
theorem dL_refuel_3 : decode cL_refuel 3 = .ok (.invokevirtual 67, 3) := by decide +kernel
theorem dL_refuel_6 : decode cL_refuel 6 = .ok (.ireturn, 1) := by decide +kernel
theorem dL_refuel_7 : decode cL_refuel 7 = .ok (.astore_n 3, 1) := by decide +kernel
theorem dL_refuel_8 : decode cL_refuel 8 = .ok (.ldc 17, 2) := by decide +kernel
theorem dL_refuel_10 : decode cL_refuel 10 = .ok (.ireturn, 1) := by decide +kernel
theorem dL_refuel_11 : decode cL_refuel 11 = .ok (.astore_n 3, 1) := by decide +kernel
theorem dL_refuel_12 : decode cL_refuel 12 = .ok (.ldc 26, 2) := by decide +kernel
theorem dL_refuel_14 : decode cL_refuel 14 = .ok (.ireturn, 1) := by decide +kernel
theorem dL_refuel_15 : decode cL_refuel 15 = .ok (.astore_n 3, 1) := by decide +kernel
theorem dL_refuel_16 : decode cL_refuel 16 = .ok (.ldc 30, 2) := by decide +kernel
theorem dL_refuel_18 : decode cL_refuel 18 = .ok (.ireturn, 1) := by decide +kernel
set_option maxRecDepth 20000 in
theorem ggL_state_X8_state : GoodIn wsL_state wsX8_state := goodIn_ca (goodIn_r _ [7, 8, 9, 10, 11, 6, 12, 13, 14, 15, 16, 17, 18, 19, 20, 21, 22, 23, 24, 25, 26, 27, 28, 29, 30, 31, 32, 33, 34, 35, 36, 37, 38, 39, 40, 41] (by decide +kernel) (by decide +kernel)) (goodIn_sub (fun _ h => List.mem_cons_of_mem _ (List.mem_append_right _ h)) (by decide +kernel))
set_option maxRecDepth 20000 in
theorem gL_state_X8_state : GoodIn wsL_state (wsV RL 70 RX8 yX8_state wsX8_state) := goodIn_app (goodIn_of _ (by decide +kernel)) ggL_state_X8_state
theorem dL_state_0 : decode cL_state 0 = .ok (.aload_n 0, 1) := by decide +kernel
theorem dL_state_1 : decode cL_state 1 = .ok (.iload_n 1, 1) := by decide +kernel
theorem dL_state_2 : decode cL_state 2 = .ok (.invokevirtual 70, 3) := by decide +kernel
theorem dL_state_5 : decode cL_state 5 = .ok (.ireturn, 1) := by decide +kernel
theorem dL_state_6 : decode cL_state 6 = .ok (.astore_n 2, 1) := by decide +kernel
theorem dL_state_7 : decode cL_state 7 = .ok (.ldc 17, 2) := by decide +kernel
theorem dL_state_9 : decode cL_state 9 = .ok (.ireturn, 1) := by decide +kernel
set_option maxRecDepth 20000 in
theorem ggL_fuel_X8_fuel : GoodIn wsL_fuel wsX8_fuel := goodIn_ca (goodIn_r _ [7, 8, 9, 10, 11, 6, 12, 13, 14, 15, 16, 17, 18, 19, 20, 21, 22, 23, 24, 25, 26, 27, 28, 29, 30, 31, 32, 33, 34, 35, 36, 37, 38, 39, 40, 41] (by decide +kernel) (by decide +kernel)) (goodIn_sub (fun _ h => List.mem_cons_of_mem _ (List.mem_append_right _ h)) (by decide +kernel))
set_option maxRecDepth 20000 in
theorem gL_fuel_X8_fuel : GoodIn wsL_fuel (wsV RL 74 RX8 yX8_fuel wsX8_fuel) := goodIn_app (goodIn_of _ (by decide +kernel)) ggL_fuel_X8_fuel
theorem dL_fuel_0 : decode cL_fuel 0 = .ok (.aload_n 0, 1) := by decide +kernel
theorem dL_fuel_1 : decode cL_fuel 1 = .ok (.iload_n 1, 1) := by decide +kernel
theorem dL_fuel_2 : decode cL_fuel 2 = .ok (.invokevirtual 74, 3) := by decide +kernel
theorem dL_fuel_5 : decode cL_fuel 5 = .ok (.ireturn, 1) := by decide +kernel
theorem dL_fuel_6 : decode cL_fuel 6 = .ok (.astore_n 2, 1) := by decide +kernel
theorem dL_fuel_7 : decode cL_fuel 7 = .ok (.ldc 17, 2) := by decide +kernel
theorem dL_fuel_9 : decode cL_fuel 9 = .ok (.ireturn, 1) := by decide +kernel
set_option maxRecDepth 20000 in
theorem ggL_toGo_X8_toGo : GoodIn wsL_toGo wsX8_toGo := goodIn_ca (goodIn_ca (goodIn_r _ [9, 10, 11, 12, 13, 14, 15, 16, 8, 17, 18, 19, 20, 21, 22, 23, 24, 25, 26, 27, 28, 29, 30, 31, 32, 33, 34, 35, 36, 37, 38, 39, 40, 41, 42, 43, 44, 45, 46] (by decide +kernel) (by decide +kernel)) (goodIn_sub (fun _ h => List.mem_cons_of_mem _ (List.mem_append_left _ (List.mem_append_right _ h))) (by decide +kernel))) (goodIn_sub (fun _ h => List.mem_cons_of_mem _ (List.mem_append_right _ h)) (by decide +kernel))
set_option maxRecDepth 20000 in
theorem gL_toGo_X8_toGo : GoodIn wsL_toGo (wsV RL 77 RX8 yX8_toGo wsX8_toGo) := goodIn_app (goodIn_of _ (by decide +kernel)) ggL_toGo_X8_toGo
theorem dL_toGo_0 : decode cL_toGo 0 = .ok (.aload_n 0, 1) := by decide +kernel
theorem dL_toGo_1 : decode cL_toGo 1 = .ok (.iload_n 1, 1) := by decide +kernel
theorem dL_toGo_2 : decode cL_toGo 2 = .ok (.invokevirtual 77, 3) := by decide +kernel
theorem dL_toGo_5 : decode cL_toGo 5 = .ok (.ireturn, 1) := by decide +kernel
theorem dL_toGo_6 : decode cL_toGo 6 = .ok (.astore_n 2, 1) := by decide +kernel
theorem dL_toGo_7 : decode cL_toGo 7 = .ok (.ldc 17, 2) := by decide +kernel
theorem dL_toGo_9 : decode cL_toGo 9 = .ok (.ireturn, 1) := by decide +kernel
theorem dL_toGo_10 : decode cL_toGo 10 = .ok (.astore_n 2, 1) := by decide +kernel
theorem dL_toGo_11 : decode cL_toGo 11 = .ok (.ldc 26, 2) := by decide +kernel
theorem dL_toGo_13 : decode cL_toGo 13 = .ok (.ireturn, 1) := by decide +kernel
set_option maxRecDepth 20000 in
theorem ggL_addStore_X8_addStore : GoodIn wsL_addStore wsX8_addStore := goodIn_ca (goodIn_ca (goodIn_ca (goodIn_r _ [11, 12, 13, 14, 15, 16, 17, 18, 19, 20, 21, 10, 22, 23, 24, 25, 26, 27, 28, 29, 30, 31, 32, 33, 34, 35, 36, 37, 38, 39, 40, 41, 42, 43, 44, 45, 46, 47, 48, 49, 50, 51, 52, 53, 54, 55, 56, 57, 58, 59, 60, 61, 62, 63, 64, 65, 66, 67, 68, 69, 70, 71, 72, 73, 74, 75, 76] (by decide +kernel) (by decide +kernel)) (goodIn_sub (fun _ h => List.mem_cons_of_mem _ (List.mem_append_left _ (List.mem_append_left _ (List.mem_append_right _ h)))) (by decide +kernel))) (goodIn_sub (fun _ h => List.mem_cons_of_mem _ (List.mem_append_left _ (List.mem_append_right _ h))) (by decide +kernel))) (goodIn_sub (fun _ h => List.mem_cons_of_mem _ (List.mem_append_right _ h)) (by decide +kernel))
set_option maxRecDepth 20000 in
theorem gL_addStore_X8_addStore : GoodIn wsL_addStore (wsV RL 80 RX8 yX8_addStore wsX8_addStore) := goodIn_app (goodIn_of _ (by decide +kernel)) ggL_addStore_X8_addStore
theorem dL_addStore_0 : decode cL_addStore 0 = .ok (.aload_n 0, 1) := by decide +kernel
theorem dL_addStore_1 : decode cL_addStore 1 = .ok (.iload_n 1, 1) := by decide +kernel
theorem dL_addStore_2 : decode cL_addStore 2 = .ok (.iload_n 2, 1) := by decide +kernel
theorem dL_addStore_3 : decode cL_addStore 3 = .ok (.iload_n 3, 1) := by decide +kernel
theorem dL_addStore_4 : decode cL_addStore 4 = .ok (.invokevirtual 80, 3) := by decide +kernel
theorem dL_addStore_7 : decode cL_addStore 7 = .ok (.ireturn, 1) := by decide +kernel
theorem dL_addStore_8 : decode cL_addStore 8 = .ok (.astore 4, 2) := by decide +kernel
theorem dL_addStore_10 : decode cL_addStore 10 = .ok (.ldc 17, 2) := by decide +kernel
theorem dL_addStore_12 : decode cL_addStore 12 = .ok (.ireturn, 1) := by decide +kernel
theorem dL_addStore_13 : decode cL_addStore 13 = .ok (.astore 4, 2) := by decide +kernel
theorem dL_addStore_15 : decode cL_addStore 15 = .ok (.ldc 26, 2) := by decide +kernel
theorem dL_addStore_17 : decode cL_addStore 17 = .ok (.ireturn, 1) := by decide +kernel
theorem dL_addStore_18 : decode cL_addStore 18 = .ok (.astore 4, 2) := by decide +kernel
theorem dL_addStore_20 : decode cL_addStore 20 = .ok (.ldc 30, 2) := by decide +kernel
theorem dL_addStore_22 : decode cL_addStore 22 = .ok (.ireturn, 1) := by decide +kernel
set_option maxRecDepth 20000 in
theorem ggL_charge_X8_charge : GoodIn wsL_charge wsX8_charge := goodIn_ca (goodIn_r _ [7, 8, 9, 10, 11, 6, 12, 13, 14, 15, 16, 17, 18, 19, 20, 21, 22, 23, 24, 25, 26, 27, 28, 29, 30, 31, 32, 33, 34, 35, 36] (by decide +kernel) (by decide +kernel)) (goodIn_sub (fun _ h => List.mem_cons_of_mem _ (List.mem_append_right _ h)) (by decide +kernel))
set_option maxRecDepth 20000 in
theorem gL_charge_X8_charge : GoodIn wsL_charge (wsV RL 84 RX8 yX8_charge wsX8_charge) := goodIn_app (goodIn_of _ (by decide +kernel)) ggL_charge_X8_charge
theorem dL_charge_0 : decode cL_charge 0 = .ok (.aload_n 0, 1) := by decide +kernel
theorem dL_charge_1 : decode cL_charge 1 = .ok (.iload_n 1, 1) := by decide +kernel
theorem dL_charge_2 : decode cL_charge 2 = .ok (.invokevirtual 84, 3) := by decide +kernel
theorem dL_charge_5 : decode cL_charge 5 = .ok (.ireturn, 1) := by decide +kernel
theorem dL_charge_6 : decode cL_charge 6 = .ok (.astore_n 2, 1) := by decide +kernel
theorem dL_charge_7 : decode cL_charge 7 = .ok (.ldc 17, 2) := by decide +kernel
theorem dL_charge_9 : decode cL_charge 9 = .ok (.ireturn, 1) := by decide +kernel
set_option maxRecDepth 20000 in
theorem ggL_addLoad_X8_addLoad : GoodIn wsL_addLoad wsX8_addLoad := goodIn_ca (goodIn_ca (goodIn_ca (goodIn_r _ [11, 12, 13, 14, 15, 16, 17, 18, 10, 19, 20, 21, 22, 23, 24, 25, 26, 27, 28, 29, 30, 31, 32, 33, 34, 35, 36, 37, 38, 39, 40, 41, 42, 43, 44, 45, 46, 47, 48, 49, 50, 51, 52, 53, 54, 55, 56, 57, 58, 59, 60, 61, 62, 63, 64, 65, 66, 67, 68, 69, 70, 71, 72, 73, 74, 75, 76, 77, 78, 79] (by decide +kernel) (by decide +kernel)) (goodIn_sub (fun _ h => List.mem_cons_of_mem _ (List.mem_append_left _ (List.mem_append_left _ (List.mem_append_right _ h)))) (by decide +kernel))) (goodIn_sub (fun _ h => List.mem_cons_of_mem _ (List.mem_append_left _ (List.mem_append_right _ h))) (by decide +kernel))) (goodIn_sub (fun _ h => List.mem_cons_of_mem _ (List.mem_append_right _ h)) (by decide +kernel))
set_option maxRecDepth 20000 in
theorem gL_addLoad_X8_addLoad : GoodIn wsL_addLoad (wsV RL 87 RX8 yX8_addLoad wsX8_addLoad) := goodIn_app (goodIn_of _ (by decide +kernel)) ggL_addLoad_X8_addLoad
theorem dL_addLoad_0 : decode cL_addLoad 0 = .ok (.aload_n 0, 1) := by decide +kernel
theorem dL_addLoad_1 : decode cL_addLoad 1 = .ok (.iload_n 1, 1) := by decide +kernel
theorem dL_addLoad_2 : decode cL_addLoad 2 = .ok (.iload_n 2, 1) := by decide +kernel
theorem dL_addLoad_3 : decode cL_addLoad 3 = .ok (.iload_n 3, 1) := by decide +kernel
theorem dL_addLoad_4 : decode cL_addLoad 4 = .ok (.invokevirtual 87, 3) := by decide +kernel
theorem dL_addLoad_7 : decode cL_addLoad 7 = .ok (.ireturn, 1) := by decide +kernel
theorem dL_addLoad_8 : decode cL_addLoad 8 = .ok (.astore 4, 2) := by decide +kernel
theorem dL_addLoad_10 : decode cL_addLoad 10 = .ok (.ldc 17, 2) := by decide +kernel
theorem dL_addLoad_12 : decode cL_addLoad 12 = .ok (.ireturn, 1) := by decide +kernel
theorem dL_addLoad_13 : decode cL_addLoad 13 = .ok (.astore 4, 2) := by decide +kernel
theorem dL_addLoad_15 : decode cL_addLoad 15 = .ok (.ldc 26, 2) := by decide +kernel
theorem dL_addLoad_17 : decode cL_addLoad 17 = .ok (.ireturn, 1) := by decide +kernel
theorem dL_addLoad_18 : decode cL_addLoad 18 = .ok (.astore 4, 2) := by decide +kernel
theorem dL_addLoad_20 : decode cL_addLoad 20 = .ok (.ldc 30, 2) := by decide +kernel
theorem dL_addLoad_22 : decode cL_addLoad 22 = .ok (.ireturn, 1) := by decide +kernel
set_option maxRecDepth 20000 in
theorem ggL_setRank_X8_setRank : GoodIn wsL_setRank wsX8_setRank := goodIn_ca (goodIn_ca (goodIn_r _ [9, 10, 11, 12, 13, 8, 14, 15, 16, 17, 18, 19, 20, 21, 22, 23, 24, 25, 26, 27, 28, 29, 30, 31, 32, 33, 34, 35, 36, 37, 38, 39, 40, 41, 42, 43, 44] (by decide +kernel) (by decide +kernel)) (goodIn_sub (fun _ h => List.mem_cons_of_mem _ (List.mem_append_left _ (List.mem_append_right _ h))) (by decide +kernel))) (goodIn_sub (fun _ h => List.mem_cons_of_mem _ (List.mem_append_right _ h)) (by decide +kernel))
set_option maxRecDepth 20000 in
theorem gL_setRank_X8_setRank : GoodIn wsL_setRank (wsV RL 90 RX8 yX8_setRank wsX8_setRank) := goodIn_app (goodIn_of _ (by decide +kernel)) ggL_setRank_X8_setRank
theorem dL_setRank_0 : decode cL_setRank 0 = .ok (.aload_n 0, 1) := by decide +kernel
theorem dL_setRank_1 : decode cL_setRank 1 = .ok (.iload_n 1, 1) := by decide +kernel
theorem dL_setRank_2 : decode cL_setRank 2 = .ok (.iload_n 2, 1) := by decide +kernel
theorem dL_setRank_3 : decode cL_setRank 3 = .ok (.invokevirtual 90, 3) := by decide +kernel
theorem dL_setRank_6 : decode cL_setRank 6 = .ok (.ireturn, 1) := by decide +kernel
theorem dL_setRank_7 : decode cL_setRank 7 = .ok (.astore_n 3, 1) := by decide +kernel
theorem dL_setRank_8 : decode cL_setRank 8 = .ok (.ldc 17, 2) := by decide +kernel
theorem dL_setRank_10 : decode cL_setRank 10 = .ok (.ireturn, 1) := by decide +kernel
theorem dL_setRank_11 : decode cL_setRank 11 = .ok (.astore_n 3, 1) := by decide +kernel
theorem dL_setRank_12 : decode cL_setRank 12 = .ok (.ldc 26, 2) := by decide +kernel
theorem dL_setRank_14 : decode cL_setRank 14 = .ok (.ireturn, 1) := by decide +kernel
set_option maxRecDepth 20000 in
theorem ggL_waits_X8_waits : GoodIn wsL_waits wsX8_waits := goodIn_ca (goodIn_ca (goodIn_r _ [9, 10, 11, 12, 13, 14, 15, 16, 8, 17, 18, 19, 20, 21, 22, 23, 24, 25, 26, 27, 28, 29, 30, 31, 32, 33, 34, 35, 36, 37, 38, 39, 40, 41, 42] (by decide +kernel) (by decide +kernel)) (goodIn_sub (fun _ h => List.mem_cons_of_mem _ (List.mem_append_left _ (List.mem_append_right _ h))) (by decide +kernel))) (goodIn_sub (fun _ h => List.mem_cons_of_mem _ (List.mem_append_right _ h)) (by decide +kernel))
set_option maxRecDepth 20000 in
theorem gL_waits_X8_waits : GoodIn wsL_waits (wsV RL 93 RX8 yX8_waits wsX8_waits) := goodIn_app (goodIn_of _ (by decide +kernel)) ggL_waits_X8_waits
theorem dL_waits_0 : decode cL_waits 0 = .ok (.aload_n 0, 1) := by decide +kernel
theorem dL_waits_1 : decode cL_waits 1 = .ok (.iload_n 1, 1) := by decide +kernel
theorem dL_waits_2 : decode cL_waits 2 = .ok (.invokevirtual 93, 3) := by decide +kernel
theorem dL_waits_5 : decode cL_waits 5 = .ok (.ireturn, 1) := by decide +kernel
theorem dL_waits_6 : decode cL_waits 6 = .ok (.astore_n 2, 1) := by decide +kernel
theorem dL_waits_7 : decode cL_waits 7 = .ok (.ldc 17, 2) := by decide +kernel
theorem dL_waits_9 : decode cL_waits 9 = .ok (.ireturn, 1) := by decide +kernel
theorem dL_waits_10 : decode cL_waits 10 = .ok (.astore_n 2, 1) := by decide +kernel
theorem dL_waits_11 : decode cL_waits 11 = .ok (.ldc 26, 2) := by decide +kernel
theorem dL_waits_13 : decode cL_waits 13 = .ok (.ireturn, 1) := by decide +kernel
set_option maxRecDepth 20000 in
theorem ggL_setReserve_X8_setReserve : GoodIn wsL_setReserve wsX8_setReserve := goodIn_ca (goodIn_r _ [7, 8, 9, 10, 6, 11, 12, 13, 14, 15, 16, 17, 18, 19, 20, 21] (by decide +kernel) (by decide +kernel)) (goodIn_sub (fun _ h => List.mem_cons_of_mem _ (List.mem_append_right _ h)) (by decide +kernel))
set_option maxRecDepth 20000 in
theorem gL_setReserve_X8_setReserve : GoodIn wsL_setReserve (wsV RL 96 RX8 yX8_setReserve wsX8_setReserve) := goodIn_app (goodIn_of _ (by decide +kernel)) ggL_setReserve_X8_setReserve
theorem dL_setReserve_0 : decode cL_setReserve 0 = .ok (.aload_n 0, 1) := by decide +kernel
theorem dL_setReserve_1 : decode cL_setReserve 1 = .ok (.iload_n 1, 1) := by decide +kernel
theorem dL_setReserve_2 : decode cL_setReserve 2 = .ok (.invokevirtual 96, 3) := by decide +kernel
theorem dL_setReserve_5 : decode cL_setReserve 5 = .ok (.ireturn, 1) := by decide +kernel
theorem dL_setReserve_6 : decode cL_setReserve 6 = .ok (.astore_n 2, 1) := by decide +kernel
theorem dL_setReserve_7 : decode cL_setReserve 7 = .ok (.ldc 17, 2) := by decide +kernel
theorem dL_setReserve_9 : decode cL_setReserve 9 = .ok (.ireturn, 1) := by decide +kernel
set_option maxRecDepth 20000 in
theorem ggL_setDelay_X8_setDelay : GoodIn wsL_setDelay wsX8_setDelay := goodIn_ca (goodIn_r _ [7, 8, 9, 10, 6, 11, 12, 13, 14, 15, 16, 17, 18, 19, 20, 21] (by decide +kernel) (by decide +kernel)) (goodIn_sub (fun _ h => List.mem_cons_of_mem _ (List.mem_append_right _ h)) (by decide +kernel))
set_option maxRecDepth 20000 in
theorem gL_setDelay_X8_setDelay : GoodIn wsL_setDelay (wsV RL 99 RX8 yX8_setDelay wsX8_setDelay) := goodIn_app (goodIn_of _ (by decide +kernel)) ggL_setDelay_X8_setDelay
theorem dL_setDelay_0 : decode cL_setDelay 0 = .ok (.aload_n 0, 1) := by decide +kernel
theorem dL_setDelay_1 : decode cL_setDelay 1 = .ok (.iload_n 1, 1) := by decide +kernel
theorem dL_setDelay_2 : decode cL_setDelay 2 = .ok (.invokevirtual 99, 3) := by decide +kernel
theorem dL_setDelay_5 : decode cL_setDelay 5 = .ok (.ireturn, 1) := by decide +kernel
theorem dL_setDelay_6 : decode cL_setDelay 6 = .ok (.astore_n 2, 1) := by decide +kernel
theorem dL_setDelay_7 : decode cL_setDelay 7 = .ok (.ldc 17, 2) := by decide +kernel
theorem dL_setDelay_9 : decode cL_setDelay 9 = .ok (.ireturn, 1) := by decide +kernel
set_option maxRecDepth 20000 in
theorem ggL_bound_X8_bound : GoodIn wsL_bound wsX8_bound := goodIn_ca (goodIn_r _ [7, 8, 9, 10, 11, 12, 6, 13, 14, 15, 16, 17, 18, 19, 20, 21, 22, 23, 24, 25, 26, 27, 28, 29, 30, 31, 32, 33, 34, 35, 36, 37, 38, 39, 40, 41, 42, 43, 44, 45, 46, 47, 48, 49, 50, 51, 52, 53, 54, 55, 56, 57, 58, 59, 60, 61, 62, 63, 64, 65, 66, 67, 68, 69, 70, 71, 72, 73, 74, 75, 76, 77, 78, 79, 80, 81, 82, 83, 84, 85, 86, 87, 88, 89, 90, 91, 92, 93, 94, 95, 96, 97, 98, 99, 100, 101, 102, 103, 104, 105, 106, 107, 108, 109, 110, 111, 112, 113, 114, 115, 116, 117, 118, 119, 120, 121, 122] (by decide +kernel) (by decide +kernel)) (goodIn_sub (fun _ h => List.mem_cons_of_mem _ (List.mem_append_right _ h)) (by decide +kernel))
set_option maxRecDepth 20000 in
theorem gL_bound_X8_bound : GoodIn wsL_bound (wsV RL 102 RX8 yX8_bound wsX8_bound) := goodIn_app (goodIn_of _ (by decide +kernel)) ggL_bound_X8_bound
theorem dL_bound_0 : decode cL_bound 0 = .ok (.aload_n 0, 1) := by decide +kernel
theorem dL_bound_1 : decode cL_bound 1 = .ok (.iload_n 1, 1) := by decide +kernel
theorem dL_bound_2 : decode cL_bound 2 = .ok (.invokevirtual 102, 3) := by decide +kernel
theorem dL_bound_5 : decode cL_bound 5 = .ok (.ireturn, 1) := by decide +kernel
theorem dL_bound_6 : decode cL_bound 6 = .ok (.astore_n 2, 1) := by decide +kernel
theorem dL_bound_7 : decode cL_bound 7 = .ok (.ldc 17, 2) := by decide +kernel
theorem dL_bound_9 : decode cL_bound 9 = .ok (.ireturn, 1) := by decide +kernel
set_option maxRecDepth 20000 in
theorem ggL_demand_X8_demand : GoodIn wsL_demand wsX8_demand := goodIn_ca (goodIn_r _ [7, 8, 9, 10, 11, 12, 13, 6, 14, 15, 16, 17, 18, 19, 20, 21, 22, 23, 24, 25, 26, 27, 28, 29, 30, 31, 32, 33, 34, 35, 36, 37, 38, 39, 40, 41, 42, 43, 44, 45, 46, 47, 48, 49, 50, 51, 52, 53, 54, 55, 56, 57, 58, 59, 60, 61, 62, 63] (by decide +kernel) (by decide +kernel)) (goodIn_sub (fun _ h => List.mem_cons_of_mem _ (List.mem_append_right _ h)) (by decide +kernel))
set_option maxRecDepth 20000 in
theorem gL_demand_X8_demand : GoodIn wsL_demand (wsV RL 105 RX8 yX8_demand wsX8_demand) := goodIn_app (goodIn_of _ (by decide +kernel)) ggL_demand_X8_demand
theorem dL_demand_0 : decode cL_demand 0 = .ok (.aload_n 0, 1) := by decide +kernel
theorem dL_demand_1 : decode cL_demand 1 = .ok (.iload_n 1, 1) := by decide +kernel
theorem dL_demand_2 : decode cL_demand 2 = .ok (.invokevirtual 105, 3) := by decide +kernel
theorem dL_demand_5 : decode cL_demand 5 = .ok (.ireturn, 1) := by decide +kernel
theorem dL_demand_6 : decode cL_demand 6 = .ok (.astore_n 2, 1) := by decide +kernel
theorem dL_demand_7 : decode cL_demand 7 = .ok (.ldc 17, 2) := by decide +kernel
theorem dL_demand_9 : decode cL_demand 9 = .ok (.ireturn, 1) := by decide +kernel
set_option maxRecDepth 20000 in
theorem ggL_pass_X8_pass : GoodIn wsL_pass wsX8_pass := goodIn_ca (goodIn_r _ [7, 8, 9, 10, 6, 11, 12, 13, 14, 15, 16, 17, 18, 19, 20, 21, 22, 23, 24, 25, 26, 27, 28, 29, 30, 31, 32, 33, 34, 35, 36, 37, 38, 39, 40, 41, 42, 43, 44, 45, 46, 47, 48, 49, 50, 51, 52, 53, 54, 55, 56, 57, 58, 59, 60, 61, 62, 63, 64, 65, 66, 67, 68, 69, 70, 71, 72, 73, 74, 75, 76, 77, 78, 79, 80, 81, 82, 83, 84, 85, 86, 87, 88, 89, 90, 91, 92, 93, 94, 95, 96, 97, 98, 99, 100, 101, 102, 103, 104, 105, 106, 107, 108, 109, 110, 111, 112, 113, 114, 115, 116, 117, 118, 119, 120, 121, 122, 123, 124, 125, 126, 127, 128, 129, 130, 131, 132, 133, 134, 135, 136, 137, 138, 139, 140, 141, 142, 143, 144, 145, 146, 147, 148, 149, 150, 151, 152, 153, 154, 155, 156, 157, 158, 159, 160, 161, 162, 163, 164, 165, 166, 167, 168, 169, 170, 171, 172, 173, 174, 175, 176, 177, 178, 179, 180, 181, 182, 183, 184, 185, 186, 187, 188, 189, 190, 191, 192, 193, 194, 195, 196, 197, 198, 199, 200, 201, 202, 203, 204, 205, 206, 207, 208, 209, 210, 211, 212, 213, 214, 215, 216, 217, 218, 219, 220, 221, 222, 223, 224, 225, 226, 227, 228, 229, 230, 231, 232, 233, 234, 235, 236, 237, 238, 239, 240, 241, 242, 243, 244, 245, 246, 247, 248, 249, 250, 251, 252, 253, 254, 255, 256, 257, 258, 259, 260, 261, 262, 263, 264, 265, 266, 267, 268, 269, 270, 271, 272, 273, 274, 275, 276, 277, 278, 279] (by decide +kernel) (by decide +kernel)) (goodIn_sub (fun _ h => List.mem_cons_of_mem _ (List.mem_append_right _ h)) (by decide +kernel))
set_option maxRecDepth 20000 in
theorem gL_pass_X8_pass : GoodIn wsL_pass (wsV RL 108 RX8 yX8_pass wsX8_pass) := goodIn_app (goodIn_of _ (by decide +kernel)) ggL_pass_X8_pass
theorem dL_pass_0 : decode cL_pass 0 = .ok (.aload_n 0, 1) := by decide +kernel
theorem dL_pass_1 : decode cL_pass 1 = .ok (.iload_n 1, 1) := by decide +kernel
theorem dL_pass_2 : decode cL_pass 2 = .ok (.invokevirtual 108, 3) := by decide +kernel
theorem dL_pass_5 : decode cL_pass 5 = .ok (.ireturn, 1) := by decide +kernel
theorem dL_pass_6 : decode cL_pass 6 = .ok (.astore_n 2, 1) := by decide +kernel
theorem dL_pass_7 : decode cL_pass 7 = .ok (.ldc 17, 2) := by decide +kernel
theorem dL_pass_9 : decode cL_pass 9 = .ok (.ireturn, 1) := by decide +kernel
set_option maxRecDepth 20000 in
theorem ggL_given_X8_given : GoodIn wsL_given wsX8_given := goodIn_ca (goodIn_r _ [7, 8, 9, 10, 11, 6, 12, 13, 14, 15, 16, 17, 18, 19, 20, 21, 22, 23, 24, 25, 26, 27, 28, 29, 30, 31, 32, 33, 34, 35, 36, 37, 38, 39, 40, 41] (by decide +kernel) (by decide +kernel)) (goodIn_sub (fun _ h => List.mem_cons_of_mem _ (List.mem_append_right _ h)) (by decide +kernel))
set_option maxRecDepth 20000 in
theorem gL_given_X8_given : GoodIn wsL_given (wsV RL 111 RX8 yX8_given wsX8_given) := goodIn_app (goodIn_of _ (by decide +kernel)) ggL_given_X8_given
theorem dL_given_0 : decode cL_given 0 = .ok (.aload_n 0, 1) := by decide +kernel
theorem dL_given_1 : decode cL_given 1 = .ok (.iload_n 1, 1) := by decide +kernel
theorem dL_given_2 : decode cL_given 2 = .ok (.invokevirtual 111, 3) := by decide +kernel
theorem dL_given_5 : decode cL_given 5 = .ok (.ireturn, 1) := by decide +kernel
theorem dL_given_6 : decode cL_given 6 = .ok (.astore_n 2, 1) := by decide +kernel
theorem dL_given_7 : decode cL_given 7 = .ok (.ldc 17, 2) := by decide +kernel
theorem dL_given_9 : decode cL_given 9 = .ok (.ireturn, 1) := by decide +kernel
set_option maxRecDepth 20000 in
theorem ggL_flow_X8_flow : GoodIn wsL_flow wsX8_flow := goodIn_ca (goodIn_r _ [7, 8, 9, 10, 11, 6, 12, 13, 14, 15, 16, 17, 18, 19, 20, 21, 22, 23, 24, 25, 26, 27, 28, 29, 30, 31, 32, 33, 34, 35, 36] (by decide +kernel) (by decide +kernel)) (goodIn_sub (fun _ h => List.mem_cons_of_mem _ (List.mem_append_right _ h)) (by decide +kernel))
set_option maxRecDepth 20000 in
theorem gL_flow_X8_flow : GoodIn wsL_flow (wsV RL 114 RX8 yX8_flow wsX8_flow) := goodIn_app (goodIn_of _ (by decide +kernel)) ggL_flow_X8_flow
theorem dL_flow_0 : decode cL_flow 0 = .ok (.aload_n 0, 1) := by decide +kernel
theorem dL_flow_1 : decode cL_flow 1 = .ok (.iload_n 1, 1) := by decide +kernel
theorem dL_flow_2 : decode cL_flow 2 = .ok (.invokevirtual 114, 3) := by decide +kernel
theorem dL_flow_5 : decode cL_flow 5 = .ok (.ireturn, 1) := by decide +kernel
theorem dL_flow_6 : decode cL_flow 6 = .ok (.astore_n 2, 1) := by decide +kernel
theorem dL_flow_7 : decode cL_flow 7 = .ok (.ldc 17, 2) := by decide +kernel
theorem dL_flow_9 : decode cL_flow 9 = .ok (.ireturn, 1) := by decide +kernel
set_option maxRecDepth 20000 in
theorem ggL_litShare_X8_litShare : GoodIn wsL_litShare wsX8_litShare := goodIn_ca (goodIn_r _ [7, 8, 9, 10, 11, 12, 13, 14, 15, 16, 17, 18, 19, 20, 21, 22, 23, 24, 25, 26, 27, 28, 29, 30, 31, 32, 33, 34, 35, 36] (by decide +kernel) (by decide +kernel)) (goodIn_sub (fun _ h => List.mem_cons_of_mem _ (List.mem_append_right _ h)) (by decide +kernel))
set_option maxRecDepth 20000 in
theorem gL_litShare_X8_litShare : GoodIn wsL_litShare (wsV RL 117 RX8 yX8_litShare wsX8_litShare) := goodIn_app (goodIn_of _ (by decide +kernel)) ggL_litShare_X8_litShare
theorem dL_litShare_0 : decode cL_litShare 0 = .ok (.aload_n 0, 1) := by decide +kernel
theorem dL_litShare_1 : decode cL_litShare 1 = .ok (.invokevirtual 117, 3) := by decide +kernel
theorem dL_litShare_4 : decode cL_litShare 4 = .ok (.freturn, 1) := by decide +kernel
theorem dL_litShare_5 : decode cL_litShare 5 = .ok (.astore_n 1, 1) := by decide +kernel
theorem dL_litShare_6 : decode cL_litShare 6 = .ok (.ldc 121, 2) := by decide +kernel
theorem dL_litShare_8 : decode cL_litShare 8 = .ok (.freturn, 1) := by decide +kernel
set_option maxRecDepth 20000 in
theorem ggL_isLit_X8_isLit : GoodIn wsL_isLit wsX8_isLit := goodIn_ca (goodIn_r _ [7, 8, 9, 10, 11, 6, 12, 13, 14, 15, 16, 17, 18, 19, 20, 21, 22, 23, 24, 25, 26, 27, 28, 29, 30, 31, 32, 33, 34, 35, 36, 37] (by decide +kernel) (by decide +kernel)) (goodIn_sub (fun _ h => List.mem_cons_of_mem _ (List.mem_append_right _ h)) (by decide +kernel))
set_option maxRecDepth 20000 in
theorem gL_isLit_X8_isLit : GoodIn wsL_isLit (wsV RL 122 RX8 yX8_isLit wsX8_isLit) := goodIn_app (goodIn_of _ (by decide +kernel)) ggL_isLit_X8_isLit
theorem dL_isLit_0 : decode cL_isLit 0 = .ok (.aload_n 0, 1) := by decide +kernel
theorem dL_isLit_1 : decode cL_isLit 1 = .ok (.iload_n 1, 1) := by decide +kernel
theorem dL_isLit_2 : decode cL_isLit 2 = .ok (.invokevirtual 122, 3) := by decide +kernel
theorem dL_isLit_5 : decode cL_isLit 5 = .ok (.ifCond .eq 7, 3) := by decide +kernel
theorem dL_isLit_8 : decode cL_isLit 8 = .ok (.iconst 1, 1) := by decide +kernel
theorem dL_isLit_9 : decode cL_isLit 9 = .ok (.goto 4, 3) := by decide +kernel
theorem dL_isLit_12 : decode cL_isLit 12 = .ok (.iconst 0, 1) := by decide +kernel
theorem dL_isLit_13 : decode cL_isLit 13 = .ok (.ireturn, 1) := by decide +kernel
theorem dL_isLit_14 : decode cL_isLit 14 = .ok (.astore_n 2, 1) := by decide +kernel
theorem dL_isLit_15 : decode cL_isLit 15 = .ok (.ldc 17, 2) := by decide +kernel
theorem dL_isLit_17 : decode cL_isLit 17 = .ok (.ireturn, 1) := by decide +kernel
set_option maxRecDepth 20000 in
theorem ggL_in_L_cell : GoodIn wsL_in wsL_cell := goodIn_r _ [5, 6, 7] (by decide +kernel) (by decide +kernel)
set_option maxRecDepth 20000 in
theorem gL_in_L_cell : GoodIn wsL_in (va_wsS RL 126 yL_cell wsL_cell) := goodIn_app (goodIn_of _ (by decide +kernel)) ggL_in_L_cell
theorem dL_in_0 : decode cL_in 0 = .ok (.aload_n 0, 1) := by decide +kernel
theorem dL_in_1 : decode cL_in 1 = .ok (.iload_n 1, 1) := by decide +kernel
theorem dL_in_2 : decode cL_in 2 = .ok (.invokestatic 126, 3) := by decide +kernel
theorem dL_in_5 : decode cL_in 5 = .ok (.ldc 132, 2) := by decide +kernel
theorem dL_in_7 : decode cL_in 7 = .ok (.iand, 1) := by decide +kernel
theorem dL_in_8 : decode cL_in 8 = .ok (.iload_n 2, 1) := by decide +kernel
theorem dL_in_9 : decode cL_in 9 = .ok (.irem, 1) := by decide +kernel
theorem dL_in_10 : decode cL_in 10 = .ok (.ireturn, 1) := by decide +kernel
set_option maxRecDepth 20000 in
theorem ggL_isLine_L_addLine : GoodIn wsL_isLine wsL_addLine := goodIn_ca (goodIn_ca (goodIn_ca (goodIn_r _ [6, 7, 8, 9, 10, 1, 2, 11, 12, 13, 14, 15, 16, 17, 18, 19, 20, 21, 22, 23, 24, 25, 26, 27, 28, 29, 30, 31, 32, 33, 34, 35, 36, 37, 38, 39, 40, 41, 42, 43, 44, 45, 46, 47, 48, 49, 50, 51, 52, 53, 54, 55, 56, 57] (by decide +kernel) (by decide +kernel)) (goodIn_sub (fun _ h => List.mem_cons_of_mem _ (List.mem_append_left _ (List.mem_append_left _ (List.mem_append_right _ h)))) (by decide +kernel))) (goodIn_sub (fun _ h => List.mem_cons_of_mem _ (List.mem_append_left _ (List.mem_append_right _ h))) (by decide +kernel))) (goodIn_sub (fun _ h => List.mem_cons_of_mem _ (List.mem_append_right _ h)) (by decide +kernel))
set_option maxRecDepth 20000 in
theorem gL_isLine_L_addLine : GoodIn wsL_isLine (va_wsS RL 133 yL_addLine wsL_addLine) := goodIn_app (goodIn_of _ (by decide +kernel)) ggL_isLine_L_addLine
theorem dL_isLine_0 : decode cL_isLine 0 = .ok (.iload_n 2, 1) := by decide +kernel
theorem dL_isLine_1 : decode cL_isLine 1 = .ok (.iload_n 3, 1) := by decide +kernel
theorem dL_isLine_2 : decode cL_isLine 2 = .ok (.if_icmp .eq 11, 3) := by decide +kernel
theorem dL_isLine_5 : decode cL_isLine 5 = .ok (.aload_n 1, 1) := by decide +kernel
theorem dL_isLine_6 : decode cL_isLine 6 = .ok (.iconst 1, 1) := by decide +kernel
theorem dL_isLine_7 : decode cL_isLine 7 = .ok (.iaload, 1) := by decide +kernel
theorem dL_isLine_8 : decode cL_isLine 8 = .ok (.bipush 8, 2) := by decide +kernel
theorem dL_isLine_10 : decode cL_isLine 10 = .ok (.if_icmp .ne 30, 3) := by decide +kernel
theorem dL_isLine_13 : decode cL_isLine 13 = .ok (.aload_n 0, 1) := by decide +kernel
theorem dL_isLine_14 : decode cL_isLine 14 = .ok (.iload_n 2, 1) := by decide +kernel
theorem dL_isLine_15 : decode cL_isLine 15 = .ok (.iload_n 3, 1) := by decide +kernel
theorem dL_isLine_16 : decode cL_isLine 16 = .ok (.invokestatic 133, 3) := by decide +kernel
theorem dL_isLine_19 : decode cL_isLine 19 = .ok (.iload_n 2, 1) := by decide +kernel
theorem dL_isLine_20 : decode cL_isLine 20 = .ok (.iload_n 3, 1) := by decide +kernel
theorem dL_isLine_21 : decode cL_isLine 21 = .ok (.if_icmp .ne 8, 3) := by decide +kernel
theorem dL_isLine_24 : decode cL_isLine 24 = .ok (.ldc 26, 2) := by decide +kernel
theorem dL_isLine_26 : decode cL_isLine 26 = .ok (.goto 5, 3) := by decide +kernel
theorem dL_isLine_29 : decode cL_isLine 29 = .ok (.ldc 30, 2) := by decide +kernel
theorem dL_isLine_31 : decode cL_isLine 31 = .ok (.if_icmp .ne 7, 3) := by decide +kernel
theorem dL_isLine_34 : decode cL_isLine 34 = .ok (.iconst 1, 1) := by decide +kernel
theorem dL_isLine_35 : decode cL_isLine 35 = .ok (.goto 4, 3) := by decide +kernel
theorem dL_isLine_38 : decode cL_isLine 38 = .ok (.iconst 0, 1) := by decide +kernel
theorem dL_isLine_39 : decode cL_isLine 39 = .ok (.ireturn, 1) := by decide +kernel
theorem dL_isLine_40 : decode cL_isLine 40 = .ok (.aload_n 1, 1) := by decide +kernel
theorem dL_isLine_41 : decode cL_isLine 41 = .ok (.bipush 20, 2) := by decide +kernel
theorem dL_isLine_43 : decode cL_isLine 43 = .ok (.iconst 3, 1) := by decide +kernel
theorem dL_isLine_44 : decode cL_isLine 44 = .ok (.aload_n 1, 1) := by decide +kernel
theorem dL_isLine_45 : decode cL_isLine 45 = .ok (.iconst 1, 1) := by decide +kernel
theorem dL_isLine_46 : decode cL_isLine 46 = .ok (.iaload, 1) := by decide +kernel
theorem dL_isLine_47 : decode cL_isLine 47 = .ok (.imul, 1) := by decide +kernel
theorem dL_isLine_48 : decode cL_isLine 48 = .ok (.iadd, 1) := by decide +kernel
theorem dL_isLine_49 : decode cL_isLine 49 = .ok (.iload_n 2, 1) := by decide +kernel
theorem dL_isLine_50 : decode cL_isLine 50 = .ok (.iastore, 1) := by decide +kernel
theorem dL_isLine_51 : decode cL_isLine 51 = .ok (.aload_n 1, 1) := by decide +kernel
theorem dL_isLine_52 : decode cL_isLine 52 = .ok (.bipush 21, 2) := by decide +kernel
theorem dL_isLine_54 : decode cL_isLine 54 = .ok (.iconst 3, 1) := by decide +kernel
theorem dL_isLine_55 : decode cL_isLine 55 = .ok (.aload_n 1, 1) := by decide +kernel
theorem dL_isLine_56 : decode cL_isLine 56 = .ok (.iconst 1, 1) := by decide +kernel
theorem dL_isLine_57 : decode cL_isLine 57 = .ok (.iaload, 1) := by decide +kernel
theorem dL_isLine_58 : decode cL_isLine 58 = .ok (.imul, 1) := by decide +kernel
theorem dL_isLine_59 : decode cL_isLine 59 = .ok (.iadd, 1) := by decide +kernel
theorem dL_isLine_60 : decode cL_isLine 60 = .ok (.iload_n 3, 1) := by decide +kernel
theorem dL_isLine_61 : decode cL_isLine 61 = .ok (.iastore, 1) := by decide +kernel
theorem dL_isLine_62 : decode cL_isLine 62 = .ok (.aload_n 1, 1) := by decide +kernel
theorem dL_isLine_63 : decode cL_isLine 63 = .ok (.iconst 1, 1) := by decide +kernel
theorem dL_isLine_64 : decode cL_isLine 64 = .ok (.dup2, 1) := by decide +kernel
theorem dL_isLine_65 : decode cL_isLine 65 = .ok (.iaload, 1) := by decide +kernel
theorem dL_isLine_66 : decode cL_isLine 66 = .ok (.iconst 1, 1) := by decide +kernel
theorem dL_isLine_67 : decode cL_isLine 67 = .ok (.iadd, 1) := by decide +kernel
theorem dL_isLine_68 : decode cL_isLine 68 = .ok (.iastore, 1) := by decide +kernel
theorem dL_isLine_69 : decode cL_isLine 69 = .ok (.aload_n 0, 1) := by decide +kernel
theorem dL_isLine_70 : decode cL_isLine 70 = .ok (.iload_n 2, 1) := by decide +kernel
theorem dL_isLine_71 : decode cL_isLine 71 = .ok (.iload_n 3, 1) := by decide +kernel
theorem dL_isLine_72 : decode cL_isLine 72 = .ok (.invokestatic 133, 3) := by decide +kernel
theorem dL_isLine_75 : decode cL_isLine 75 = .ok (.aload_n 1, 1) := by decide +kernel
theorem dL_isLine_76 : decode cL_isLine 76 = .ok (.iconst 1, 1) := by decide +kernel
theorem dL_isLine_77 : decode cL_isLine 77 = .ok (.iaload, 1) := by decide +kernel
theorem dL_isLine_78 : decode cL_isLine 78 = .ok (.iconst 1, 1) := by decide +kernel
theorem dL_isLine_79 : decode cL_isLine 79 = .ok (.isub, 1) := by decide +kernel
theorem dL_isLine_80 : decode cL_isLine 80 = .ok (.if_icmp .ne 7, 3) := by decide +kernel
theorem dL_isLine_83 : decode cL_isLine 83 = .ok (.iconst 1, 1) := by decide +kernel
theorem dL_isLine_84 : decode cL_isLine 84 = .ok (.goto 4, 3) := by decide +kernel
theorem dL_isLine_87 : decode cL_isLine 87 = .ok (.iconst 0, 1) := by decide +kernel
theorem dL_isLine_88 : decode cL_isLine 88 = .ok (.ireturn, 1) := by decide +kernel
set_option maxRecDepth 20000 in
theorem ggL_isGenerator_L_in : GoodIn wsL_isGenerator wsL_in := goodIn_r _ [9, 10, 11, 12, 8, 13, 14, 15] (by decide +kernel) (by decide +kernel)
set_option maxRecDepth 20000 in
theorem gL_isGenerator_L_in : GoodIn wsL_isGenerator (va_wsS RL 136 yL_in wsL_in) := goodIn_app (goodIn_of _ (by decide +kernel)) ggL_isGenerator_L_in
set_option maxRecDepth 20000 in
theorem ggL_isGenerator_L_addGenerator : GoodIn wsL_isGenerator wsL_addGenerator := goodIn_ca (goodIn_ca (goodIn_ca (goodIn_r _ [18, 19, 20, 21, 22, 23, 5, 24, 25, 26, 27, 28, 29, 30, 31, 2, 3, 4, 32, 33, 34, 35, 36, 37, 38, 39, 40, 41, 42, 43, 44, 45, 46, 47, 48, 49, 50, 51, 52, 53, 54, 55, 56, 57, 58, 59, 60, 61, 62, 63, 64, 65, 66, 67, 68, 69, 70, 71, 72, 73, 74, 75, 76, 77, 78, 79, 80, 81, 82, 83, 84, 85, 86, 87, 88, 89, 90, 91, 92, 93, 94, 95, 96, 97, 98, 99, 100, 101, 102] (by decide +kernel) (by decide +kernel)) (goodIn_sub (fun _ h => List.mem_cons_of_mem _ (List.mem_append_left _ (List.mem_append_left _ (List.mem_append_right _ h)))) (by decide +kernel))) (goodIn_sub (fun _ h => List.mem_cons_of_mem _ (List.mem_append_left _ (List.mem_append_right _ h))) (by decide +kernel))) (goodIn_sub (fun _ h => List.mem_cons_of_mem _ (List.mem_append_right _ h)) (by decide +kernel))
set_option maxRecDepth 20000 in
theorem gL_isGenerator_L_addGenerator : GoodIn wsL_isGenerator (va_wsS RL 145 yL_addGenerator wsL_addGenerator) := goodIn_app (goodIn_of _ (by decide +kernel)) ggL_isGenerator_L_addGenerator
theorem dL_isGenerator_0 : decode cL_isGenerator 0 = .ok (.bipush 50, 2) := by decide +kernel
theorem dL_isGenerator_2 : decode cL_isGenerator 2 = .ok (.bipush 9, 2) := by decide +kernel
theorem dL_isGenerator_4 : decode cL_isGenerator 4 = .ok (.aload_n 1, 1) := by decide +kernel
theorem dL_isGenerator_5 : decode cL_isGenerator 5 = .ok (.iconst 2, 1) := by decide +kernel
theorem dL_isGenerator_6 : decode cL_isGenerator 6 = .ok (.iaload, 1) := by decide +kernel
theorem dL_isGenerator_7 : decode cL_isGenerator 7 = .ok (.imul, 1) := by decide +kernel
theorem dL_isGenerator_8 : decode cL_isGenerator 8 = .ok (.iadd, 1) := by decide +kernel
theorem dL_isGenerator_9 : decode cL_isGenerator 9 = .ok (.istore 4, 2) := by decide +kernel
theorem dL_isGenerator_11 : decode cL_isGenerator 11 = .ok (.aload_n 2, 1) := by decide +kernel
theorem dL_isGenerator_12 : decode cL_isGenerator 12 = .ok (.iload_n 3, 1) := by decide +kernel
theorem dL_isGenerator_13 : decode cL_isGenerator 13 = .ok (.iconst 1, 1) := by decide +kernel
theorem dL_isGenerator_14 : decode cL_isGenerator 14 = .ok (.iadd, 1) := by decide +kernel
theorem dL_isGenerator_15 : decode cL_isGenerator 15 = .ok (.iconst 3, 1) := by decide +kernel
theorem dL_isGenerator_16 : decode cL_isGenerator 16 = .ok (.invokestatic 136, 3) := by decide +kernel
theorem dL_isGenerator_19 : decode cL_isGenerator 19 = .ok (.ifCond .ne 7, 3) := by decide +kernel
theorem dL_isGenerator_22 : decode cL_isGenerator 22 = .ok (.iconst 0, 1) := by decide +kernel
theorem dL_isGenerator_23 : decode cL_isGenerator 23 = .ok (.goto 12, 3) := by decide +kernel
theorem dL_isGenerator_26 : decode cL_isGenerator 26 = .ok (.aload_n 2, 1) := by decide +kernel
theorem dL_isGenerator_27 : decode cL_isGenerator 27 = .ok (.iload_n 3, 1) := by decide +kernel
theorem dL_isGenerator_28 : decode cL_isGenerator 28 = .ok (.iconst 2, 1) := by decide +kernel
theorem dL_isGenerator_29 : decode cL_isGenerator 29 = .ok (.iadd, 1) := by decide +kernel
theorem dL_isGenerator_30 : decode cL_isGenerator 30 = .ok (.bipush 30, 2) := by decide +kernel
theorem dL_isGenerator_32 : decode cL_isGenerator 32 = .ok (.invokestatic 136, 3) := by decide +kernel
theorem dL_isGenerator_35 : decode cL_isGenerator 35 = .ok (.istore 5, 2) := by decide +kernel
theorem dL_isGenerator_37 : decode cL_isGenerator 37 = .ok (.iconst 1, 1) := by decide +kernel
theorem dL_isGenerator_38 : decode cL_isGenerator 38 = .ok (.iload 5, 2) := by decide +kernel
theorem dL_isGenerator_40 : decode cL_isGenerator 40 = .ok (.aload_n 2, 1) := by decide +kernel
theorem dL_isGenerator_41 : decode cL_isGenerator 41 = .ok (.iload_n 3, 1) := by decide +kernel
theorem dL_isGenerator_42 : decode cL_isGenerator 42 = .ok (.iconst 3, 1) := by decide +kernel
theorem dL_isGenerator_43 : decode cL_isGenerator 43 = .ok (.iadd, 1) := by decide +kernel
theorem dL_isGenerator_44 : decode cL_isGenerator 44 = .ok (.bipush 60, 2) := by decide +kernel
theorem dL_isGenerator_46 : decode cL_isGenerator 46 = .ok (.invokestatic 136, 3) := by decide +kernel
theorem dL_isGenerator_49 : decode cL_isGenerator 49 = .ok (.iadd, 1) := by decide +kernel
theorem dL_isGenerator_50 : decode cL_isGenerator 50 = .ok (.invokestatic 140, 3) := by decide +kernel
theorem dL_isGenerator_53 : decode cL_isGenerator 53 = .ok (.istore 6, 2) := by decide +kernel
theorem dL_isGenerator_55 : decode cL_isGenerator 55 = .ok (.aload_n 2, 1) := by decide +kernel
theorem dL_isGenerator_56 : decode cL_isGenerator 56 = .ok (.iload_n 3, 1) := by decide +kernel
theorem dL_isGenerator_57 : decode cL_isGenerator 57 = .ok (.iconst 5, 1) := by decide +kernel
theorem dL_isGenerator_58 : decode cL_isGenerator 58 = .ok (.iadd, 1) := by decide +kernel
theorem dL_isGenerator_59 : decode cL_isGenerator 59 = .ok (.iconst 3, 1) := by decide +kernel
theorem dL_isGenerator_60 : decode cL_isGenerator 60 = .ok (.invokestatic 136, 3) := by decide +kernel
theorem dL_isGenerator_63 : decode cL_isGenerator 63 = .ok (.ifCond .ne 16, 3) := by decide +kernel
theorem dL_isGenerator_66 : decode cL_isGenerator 66 = .ok (.aload_n 2, 1) := by decide +kernel
theorem dL_isGenerator_67 : decode cL_isGenerator 67 = .ok (.iload_n 3, 1) := by decide +kernel
theorem dL_isGenerator_68 : decode cL_isGenerator 68 = .ok (.bipush 6, 2) := by decide +kernel
theorem dL_isGenerator_70 : decode cL_isGenerator 70 = .ok (.iadd, 1) := by decide +kernel
theorem dL_isGenerator_71 : decode cL_isGenerator 71 = .ok (.bipush 60, 2) := by decide +kernel
theorem dL_isGenerator_73 : decode cL_isGenerator 73 = .ok (.invokestatic 136, 3) := by decide +kernel
theorem dL_isGenerator_76 : decode cL_isGenerator 76 = .ok (.goto 14, 3) := by decide +kernel
theorem dL_isGenerator_79 : decode cL_isGenerator 79 = .ok (.aload_n 2, 1) := by decide +kernel
theorem dL_isGenerator_80 : decode cL_isGenerator 80 = .ok (.iload_n 3, 1) := by decide +kernel
theorem dL_isGenerator_81 : decode cL_isGenerator 81 = .ok (.bipush 6, 2) := by decide +kernel
theorem dL_isGenerator_83 : decode cL_isGenerator 83 = .ok (.iadd, 1) := by decide +kernel
theorem dL_isGenerator_84 : decode cL_isGenerator 84 = .ok (.sipush 1500, 3) := by decide +kernel
theorem dL_isGenerator_87 : decode cL_isGenerator 87 = .ok (.invokestatic 136, 3) := by decide +kernel
theorem dL_isGenerator_90 : decode cL_isGenerator 90 = .ok (.istore 7, 2) := by decide +kernel
theorem dL_isGenerator_92 : decode cL_isGenerator 92 = .ok (.aload_n 1, 1) := by decide +kernel
theorem dL_isGenerator_93 : decode cL_isGenerator 93 = .ok (.iconst 2, 1) := by decide +kernel
theorem dL_isGenerator_94 : decode cL_isGenerator 94 = .ok (.iaload, 1) := by decide +kernel
theorem dL_isGenerator_95 : decode cL_isGenerator 95 = .ok (.bipush 6, 2) := by decide +kernel
theorem dL_isGenerator_97 : decode cL_isGenerator 97 = .ok (.if_icmp .ne 33, 3) := by decide +kernel
theorem dL_isGenerator_100 : decode cL_isGenerator 100 = .ok (.aload_n 0, 1) := by decide +kernel
theorem dL_isGenerator_101 : decode cL_isGenerator 101 = .ok (.aload_n 2, 1) := by decide +kernel
theorem dL_isGenerator_102 : decode cL_isGenerator 102 = .ok (.iload_n 3, 1) := by decide +kernel
theorem dL_isGenerator_103 : decode cL_isGenerator 103 = .ok (.aload_n 1, 1) := by decide +kernel
theorem dL_isGenerator_104 : decode cL_isGenerator 104 = .ok (.iconst 0, 1) := by decide +kernel
theorem dL_isGenerator_105 : decode cL_isGenerator 105 = .ok (.iaload, 1) := by decide +kernel
theorem dL_isGenerator_106 : decode cL_isGenerator 106 = .ok (.invokestatic 136, 3) := by decide +kernel
theorem dL_isGenerator_109 : decode cL_isGenerator 109 = .ok (.iload 5, 2) := by decide +kernel
theorem dL_isGenerator_111 : decode cL_isGenerator 111 = .ok (.iload 6, 2) := by decide +kernel
theorem dL_isGenerator_113 : decode cL_isGenerator 113 = .ok (.iconst 0, 1) := by decide +kernel
theorem dL_isGenerator_114 : decode cL_isGenerator 114 = .ok (.iload 7, 2) := by decide +kernel
theorem dL_isGenerator_116 : decode cL_isGenerator 116 = .ok (.invokestatic 145, 3) := by decide +kernel
theorem dL_isGenerator_119 : decode cL_isGenerator 119 = .ok (.ldc 30, 2) := by decide +kernel
theorem dL_isGenerator_121 : decode cL_isGenerator 121 = .ok (.if_icmp .ne 7, 3) := by decide +kernel
theorem dL_isGenerator_124 : decode cL_isGenerator 124 = .ok (.iconst 1, 1) := by decide +kernel
theorem dL_isGenerator_125 : decode cL_isGenerator 125 = .ok (.goto 4, 3) := by decide +kernel
theorem dL_isGenerator_128 : decode cL_isGenerator 128 = .ok (.iconst 0, 1) := by decide +kernel
theorem dL_isGenerator_129 : decode cL_isGenerator 129 = .ok (.ireturn, 1) := by decide +kernel
theorem dL_isGenerator_130 : decode cL_isGenerator 130 = .ok (.aload_n 1, 1) := by decide +kernel
theorem dL_isGenerator_131 : decode cL_isGenerator 131 = .ok (.iload 4, 2) := by decide +kernel
theorem dL_isGenerator_133 : decode cL_isGenerator 133 = .ok (.aload_n 2, 1) := by decide +kernel
theorem dL_isGenerator_134 : decode cL_isGenerator 134 = .ok (.iload_n 3, 1) := by decide +kernel
theorem dL_isGenerator_135 : decode cL_isGenerator 135 = .ok (.aload_n 1, 1) := by decide +kernel
theorem dL_isGenerator_136 : decode cL_isGenerator 136 = .ok (.iconst 0, 1) := by decide +kernel
theorem dL_isGenerator_137 : decode cL_isGenerator 137 = .ok (.iaload, 1) := by decide +kernel
theorem dL_isGenerator_138 : decode cL_isGenerator 138 = .ok (.invokestatic 136, 3) := by decide +kernel
theorem dL_isGenerator_141 : decode cL_isGenerator 141 = .ok (.iastore, 1) := by decide +kernel
theorem dL_isGenerator_142 : decode cL_isGenerator 142 = .ok (.aload_n 1, 1) := by decide +kernel
theorem dL_isGenerator_143 : decode cL_isGenerator 143 = .ok (.iload 4, 2) := by decide +kernel
theorem dL_isGenerator_145 : decode cL_isGenerator 145 = .ok (.iconst 1, 1) := by decide +kernel
theorem dL_isGenerator_146 : decode cL_isGenerator 146 = .ok (.iadd, 1) := by decide +kernel
theorem dL_isGenerator_147 : decode cL_isGenerator 147 = .ok (.iload 5, 2) := by decide +kernel
theorem dL_isGenerator_149 : decode cL_isGenerator 149 = .ok (.iastore, 1) := by decide +kernel
theorem dL_isGenerator_150 : decode cL_isGenerator 150 = .ok (.aload_n 1, 1) := by decide +kernel
theorem dL_isGenerator_151 : decode cL_isGenerator 151 = .ok (.iload 4, 2) := by decide +kernel
theorem dL_isGenerator_153 : decode cL_isGenerator 153 = .ok (.iconst 2, 1) := by decide +kernel
theorem dL_isGenerator_154 : decode cL_isGenerator 154 = .ok (.iadd, 1) := by decide +kernel
theorem dL_isGenerator_155 : decode cL_isGenerator 155 = .ok (.iload 6, 2) := by decide +kernel
theorem dL_isGenerator_157 : decode cL_isGenerator 157 = .ok (.iastore, 1) := by decide +kernel
theorem dL_isGenerator_158 : decode cL_isGenerator 158 = .ok (.aload_n 1, 1) := by decide +kernel
theorem dL_isGenerator_159 : decode cL_isGenerator 159 = .ok (.iload 4, 2) := by decide +kernel
theorem dL_isGenerator_161 : decode cL_isGenerator 161 = .ok (.iconst 3, 1) := by decide +kernel
theorem dL_isGenerator_162 : decode cL_isGenerator 162 = .ok (.iadd, 1) := by decide +kernel
theorem dL_isGenerator_163 : decode cL_isGenerator 163 = .ok (.aload_n 2, 1) := by decide +kernel
theorem dL_isGenerator_164 : decode cL_isGenerator 164 = .ok (.iload_n 3, 1) := by decide +kernel
theorem dL_isGenerator_165 : decode cL_isGenerator 165 = .ok (.iconst 4, 1) := by decide +kernel
theorem dL_isGenerator_166 : decode cL_isGenerator 166 = .ok (.iadd, 1) := by decide +kernel
theorem dL_isGenerator_167 : decode cL_isGenerator 167 = .ok (.iconst 4, 1) := by decide +kernel
theorem dL_isGenerator_168 : decode cL_isGenerator 168 = .ok (.invokestatic 136, 3) := by decide +kernel
theorem dL_isGenerator_171 : decode cL_isGenerator 171 = .ok (.iastore, 1) := by decide +kernel
theorem dL_isGenerator_172 : decode cL_isGenerator 172 = .ok (.aload_n 1, 1) := by decide +kernel
theorem dL_isGenerator_173 : decode cL_isGenerator 173 = .ok (.iload 4, 2) := by decide +kernel
theorem dL_isGenerator_175 : decode cL_isGenerator 175 = .ok (.iconst 4, 1) := by decide +kernel
theorem dL_isGenerator_176 : decode cL_isGenerator 176 = .ok (.iadd, 1) := by decide +kernel
theorem dL_isGenerator_177 : decode cL_isGenerator 177 = .ok (.iload 7, 2) := by decide +kernel
theorem dL_isGenerator_179 : decode cL_isGenerator 179 = .ok (.iastore, 1) := by decide +kernel
theorem dL_isGenerator_180 : decode cL_isGenerator 180 = .ok (.aload_n 1, 1) := by decide +kernel
theorem dL_isGenerator_181 : decode cL_isGenerator 181 = .ok (.iconst 2, 1) := by decide +kernel
theorem dL_isGenerator_182 : decode cL_isGenerator 182 = .ok (.dup2, 1) := by decide +kernel
theorem dL_isGenerator_183 : decode cL_isGenerator 183 = .ok (.iaload, 1) := by decide +kernel
theorem dL_isGenerator_184 : decode cL_isGenerator 184 = .ok (.iconst 1, 1) := by decide +kernel
theorem dL_isGenerator_185 : decode cL_isGenerator 185 = .ok (.iadd, 1) := by decide +kernel
theorem dL_isGenerator_186 : decode cL_isGenerator 186 = .ok (.iastore, 1) := by decide +kernel
theorem dL_isGenerator_187 : decode cL_isGenerator 187 = .ok (.aload_n 0, 1) := by decide +kernel
theorem dL_isGenerator_188 : decode cL_isGenerator 188 = .ok (.aload_n 1, 1) := by decide +kernel
theorem dL_isGenerator_189 : decode cL_isGenerator 189 = .ok (.iload 4, 2) := by decide +kernel
theorem dL_isGenerator_191 : decode cL_isGenerator 191 = .ok (.iaload, 1) := by decide +kernel
theorem dL_isGenerator_192 : decode cL_isGenerator 192 = .ok (.iload 5, 2) := by decide +kernel
theorem dL_isGenerator_194 : decode cL_isGenerator 194 = .ok (.iload 6, 2) := by decide +kernel
theorem dL_isGenerator_196 : decode cL_isGenerator 196 = .ok (.aload_n 1, 1) := by decide +kernel
theorem dL_isGenerator_197 : decode cL_isGenerator 197 = .ok (.iload 4, 2) := by decide +kernel
theorem dL_isGenerator_199 : decode cL_isGenerator 199 = .ok (.iconst 3, 1) := by decide +kernel
theorem dL_isGenerator_200 : decode cL_isGenerator 200 = .ok (.iadd, 1) := by decide +kernel
theorem dL_isGenerator_201 : decode cL_isGenerator 201 = .ok (.iaload, 1) := by decide +kernel
theorem dL_isGenerator_202 : decode cL_isGenerator 202 = .ok (.iload 7, 2) := by decide +kernel
theorem dL_isGenerator_204 : decode cL_isGenerator 204 = .ok (.invokestatic 145, 3) := by decide +kernel
theorem dL_isGenerator_207 : decode cL_isGenerator 207 = .ok (.aload_n 1, 1) := by decide +kernel
theorem dL_isGenerator_208 : decode cL_isGenerator 208 = .ok (.iconst 2, 1) := by decide +kernel
theorem dL_isGenerator_209 : decode cL_isGenerator 209 = .ok (.iaload, 1) := by decide +kernel
theorem dL_isGenerator_210 : decode cL_isGenerator 210 = .ok (.iconst 1, 1) := by decide +kernel
theorem dL_isGenerator_211 : decode cL_isGenerator 211 = .ok (.isub, 1) := by decide +kernel
theorem dL_isGenerator_212 : decode cL_isGenerator 212 = .ok (.if_icmp .ne 7, 3) := by decide +kernel
theorem dL_isGenerator_215 : decode cL_isGenerator 215 = .ok (.iconst 1, 1) := by decide +kernel
theorem dL_isGenerator_216 : decode cL_isGenerator 216 = .ok (.goto 4, 3) := by decide +kernel
theorem dL_isGenerator_219 : decode cL_isGenerator 219 = .ok (.iconst 0, 1) := by decide +kernel
theorem dL_isGenerator_220 : decode cL_isGenerator 220 = .ok (.ireturn, 1) := by decide +kernel
set_option maxRecDepth 20000 in
theorem ggL_isStore_L_in : GoodIn wsL_isStore wsL_in := goodIn_r _ [5, 6, 7, 8, 4, 9, 10, 11] (by decide +kernel) (by decide +kernel)
set_option maxRecDepth 20000 in
theorem gL_isStore_L_in : GoodIn wsL_isStore (va_wsS RL 136 yL_in wsL_in) := goodIn_app (goodIn_of _ (by decide +kernel)) ggL_isStore_L_in
set_option maxRecDepth 20000 in
theorem ggL_isStore_L_addStore : GoodIn wsL_isStore wsL_addStore := goodIn_ca (goodIn_ca (goodIn_ca (goodIn_r _ [14, 15, 16, 17, 18, 19, 1, 20, 21, 22, 23, 24, 25, 26, 27, 28, 29, 30, 31, 32, 33, 34, 35, 36, 37, 38, 39, 40, 41, 42, 43, 44, 45, 46, 47, 48, 49, 50, 51, 52, 53, 54, 55, 56, 57, 58, 59, 60, 61, 62, 63, 64, 65, 66, 67, 68, 69, 70, 71, 72, 73, 74, 75, 76, 77, 78, 79, 80, 81, 82, 83, 84, 85, 86, 87, 88, 89] (by decide +kernel) (by decide +kernel)) (goodIn_sub (fun _ h => List.mem_cons_of_mem _ (List.mem_append_left _ (List.mem_append_left _ (List.mem_append_right _ h)))) (by decide +kernel))) (goodIn_sub (fun _ h => List.mem_cons_of_mem _ (List.mem_append_left _ (List.mem_append_right _ h))) (by decide +kernel))) (goodIn_sub (fun _ h => List.mem_cons_of_mem _ (List.mem_append_right _ h)) (by decide +kernel))
set_option maxRecDepth 20000 in
theorem gL_isStore_L_addStore : GoodIn wsL_isStore (va_wsS RL 148 yL_addStore wsL_addStore) := goodIn_app (goodIn_of _ (by decide +kernel)) ggL_isStore_L_addStore
theorem dL_isStore_0 : decode cL_isStore 0 = .ok (.bipush 110, 2) := by decide +kernel
theorem dL_isStore_2 : decode cL_isStore 2 = .ok (.bipush 6, 2) := by decide +kernel
theorem dL_isStore_4 : decode cL_isStore 4 = .ok (.aload_n 1, 1) := by decide +kernel
theorem dL_isStore_5 : decode cL_isStore 5 = .ok (.iconst 3, 1) := by decide +kernel
theorem dL_isStore_6 : decode cL_isStore 6 = .ok (.iaload, 1) := by decide +kernel
theorem dL_isStore_7 : decode cL_isStore 7 = .ok (.imul, 1) := by decide +kernel
theorem dL_isStore_8 : decode cL_isStore 8 = .ok (.iadd, 1) := by decide +kernel
theorem dL_isStore_9 : decode cL_isStore 9 = .ok (.istore 4, 2) := by decide +kernel
theorem dL_isStore_11 : decode cL_isStore 11 = .ok (.aload_n 1, 1) := by decide +kernel
theorem dL_isStore_12 : decode cL_isStore 12 = .ok (.iconst 3, 1) := by decide +kernel
theorem dL_isStore_13 : decode cL_isStore 13 = .ok (.iaload, 1) := by decide +kernel
theorem dL_isStore_14 : decode cL_isStore 14 = .ok (.iconst 4, 1) := by decide +kernel
theorem dL_isStore_15 : decode cL_isStore 15 = .ok (.if_icmp .ne 28, 3) := by decide +kernel
theorem dL_isStore_18 : decode cL_isStore 18 = .ok (.aload_n 0, 1) := by decide +kernel
theorem dL_isStore_19 : decode cL_isStore 19 = .ok (.aload_n 2, 1) := by decide +kernel
theorem dL_isStore_20 : decode cL_isStore 20 = .ok (.iload_n 3, 1) := by decide +kernel
theorem dL_isStore_21 : decode cL_isStore 21 = .ok (.aload_n 1, 1) := by decide +kernel
theorem dL_isStore_22 : decode cL_isStore 22 = .ok (.iconst 0, 1) := by decide +kernel
theorem dL_isStore_23 : decode cL_isStore 23 = .ok (.iaload, 1) := by decide +kernel
theorem dL_isStore_24 : decode cL_isStore 24 = .ok (.invokestatic 136, 3) := by decide +kernel
theorem dL_isStore_27 : decode cL_isStore 27 = .ok (.iconst 1, 1) := by decide +kernel
theorem dL_isStore_28 : decode cL_isStore 28 = .ok (.iconst 1, 1) := by decide +kernel
theorem dL_isStore_29 : decode cL_isStore 29 = .ok (.invokestatic 148, 3) := by decide +kernel
theorem dL_isStore_32 : decode cL_isStore 32 = .ok (.ldc 30, 2) := by decide +kernel
theorem dL_isStore_34 : decode cL_isStore 34 = .ok (.if_icmp .ne 7, 3) := by decide +kernel
theorem dL_isStore_37 : decode cL_isStore 37 = .ok (.iconst 1, 1) := by decide +kernel
theorem dL_isStore_38 : decode cL_isStore 38 = .ok (.goto 4, 3) := by decide +kernel
theorem dL_isStore_41 : decode cL_isStore 41 = .ok (.iconst 0, 1) := by decide +kernel
theorem dL_isStore_42 : decode cL_isStore 42 = .ok (.ireturn, 1) := by decide +kernel
theorem dL_isStore_43 : decode cL_isStore 43 = .ok (.aload_n 1, 1) := by decide +kernel
theorem dL_isStore_44 : decode cL_isStore 44 = .ok (.iload 4, 2) := by decide +kernel
theorem dL_isStore_46 : decode cL_isStore 46 = .ok (.aload_n 2, 1) := by decide +kernel
theorem dL_isStore_47 : decode cL_isStore 47 = .ok (.iload_n 3, 1) := by decide +kernel
theorem dL_isStore_48 : decode cL_isStore 48 = .ok (.aload_n 1, 1) := by decide +kernel
theorem dL_isStore_49 : decode cL_isStore 49 = .ok (.iconst 0, 1) := by decide +kernel
theorem dL_isStore_50 : decode cL_isStore 50 = .ok (.iaload, 1) := by decide +kernel
theorem dL_isStore_51 : decode cL_isStore 51 = .ok (.invokestatic 136, 3) := by decide +kernel
theorem dL_isStore_54 : decode cL_isStore 54 = .ok (.iastore, 1) := by decide +kernel
theorem dL_isStore_55 : decode cL_isStore 55 = .ok (.aload_n 1, 1) := by decide +kernel
theorem dL_isStore_56 : decode cL_isStore 56 = .ok (.iload 4, 2) := by decide +kernel
theorem dL_isStore_58 : decode cL_isStore 58 = .ok (.iconst 1, 1) := by decide +kernel
theorem dL_isStore_59 : decode cL_isStore 59 = .ok (.iadd, 1) := by decide +kernel
theorem dL_isStore_60 : decode cL_isStore 60 = .ok (.iconst 1, 1) := by decide +kernel
theorem dL_isStore_61 : decode cL_isStore 61 = .ok (.aload_n 2, 1) := by decide +kernel
theorem dL_isStore_62 : decode cL_isStore 62 = .ok (.iload_n 3, 1) := by decide +kernel
theorem dL_isStore_63 : decode cL_isStore 63 = .ok (.iconst 1, 1) := by decide +kernel
theorem dL_isStore_64 : decode cL_isStore 64 = .ok (.iadd, 1) := by decide +kernel
theorem dL_isStore_65 : decode cL_isStore 65 = .ok (.bipush 120, 2) := by decide +kernel
theorem dL_isStore_67 : decode cL_isStore 67 = .ok (.invokestatic 136, 3) := by decide +kernel
theorem dL_isStore_70 : decode cL_isStore 70 = .ok (.iadd, 1) := by decide +kernel
theorem dL_isStore_71 : decode cL_isStore 71 = .ok (.iastore, 1) := by decide +kernel
theorem dL_isStore_72 : decode cL_isStore 72 = .ok (.aload_n 1, 1) := by decide +kernel
theorem dL_isStore_73 : decode cL_isStore 73 = .ok (.iload 4, 2) := by decide +kernel
theorem dL_isStore_75 : decode cL_isStore 75 = .ok (.iconst 2, 1) := by decide +kernel
theorem dL_isStore_76 : decode cL_isStore 76 = .ok (.iadd, 1) := by decide +kernel
theorem dL_isStore_77 : decode cL_isStore 77 = .ok (.iconst 1, 1) := by decide +kernel
theorem dL_isStore_78 : decode cL_isStore 78 = .ok (.aload_n 2, 1) := by decide +kernel
theorem dL_isStore_79 : decode cL_isStore 79 = .ok (.iload_n 3, 1) := by decide +kernel
theorem dL_isStore_80 : decode cL_isStore 80 = .ok (.iconst 2, 1) := by decide +kernel
theorem dL_isStore_81 : decode cL_isStore 81 = .ok (.iadd, 1) := by decide +kernel
theorem dL_isStore_82 : decode cL_isStore 82 = .ok (.bipush 30, 2) := by decide +kernel
theorem dL_isStore_84 : decode cL_isStore 84 = .ok (.invokestatic 136, 3) := by decide +kernel
theorem dL_isStore_87 : decode cL_isStore 87 = .ok (.iadd, 1) := by decide +kernel
theorem dL_isStore_88 : decode cL_isStore 88 = .ok (.iastore, 1) := by decide +kernel
theorem dL_isStore_89 : decode cL_isStore 89 = .ok (.aload_n 1, 1) := by decide +kernel
theorem dL_isStore_90 : decode cL_isStore 90 = .ok (.iconst 3, 1) := by decide +kernel
theorem dL_isStore_91 : decode cL_isStore 91 = .ok (.dup2, 1) := by decide +kernel
theorem dL_isStore_92 : decode cL_isStore 92 = .ok (.iaload, 1) := by decide +kernel
theorem dL_isStore_93 : decode cL_isStore 93 = .ok (.iconst 1, 1) := by decide +kernel
theorem dL_isStore_94 : decode cL_isStore 94 = .ok (.iadd, 1) := by decide +kernel
theorem dL_isStore_95 : decode cL_isStore 95 = .ok (.iastore, 1) := by decide +kernel
theorem dL_isStore_96 : decode cL_isStore 96 = .ok (.aload_n 0, 1) := by decide +kernel
theorem dL_isStore_97 : decode cL_isStore 97 = .ok (.aload_n 1, 1) := by decide +kernel
theorem dL_isStore_98 : decode cL_isStore 98 = .ok (.iload 4, 2) := by decide +kernel
theorem dL_isStore_100 : decode cL_isStore 100 = .ok (.iaload, 1) := by decide +kernel
theorem dL_isStore_101 : decode cL_isStore 101 = .ok (.aload_n 1, 1) := by decide +kernel
theorem dL_isStore_102 : decode cL_isStore 102 = .ok (.iload 4, 2) := by decide +kernel
theorem dL_isStore_104 : decode cL_isStore 104 = .ok (.iconst 1, 1) := by decide +kernel
theorem dL_isStore_105 : decode cL_isStore 105 = .ok (.iadd, 1) := by decide +kernel
theorem dL_isStore_106 : decode cL_isStore 106 = .ok (.iaload, 1) := by decide +kernel
theorem dL_isStore_107 : decode cL_isStore 107 = .ok (.aload_n 1, 1) := by decide +kernel
theorem dL_isStore_108 : decode cL_isStore 108 = .ok (.iload 4, 2) := by decide +kernel
theorem dL_isStore_110 : decode cL_isStore 110 = .ok (.iconst 2, 1) := by decide +kernel
theorem dL_isStore_111 : decode cL_isStore 111 = .ok (.iadd, 1) := by decide +kernel
theorem dL_isStore_112 : decode cL_isStore 112 = .ok (.iaload, 1) := by decide +kernel
theorem dL_isStore_113 : decode cL_isStore 113 = .ok (.invokestatic 148, 3) := by decide +kernel
theorem dL_isStore_116 : decode cL_isStore 116 = .ok (.aload_n 1, 1) := by decide +kernel
theorem dL_isStore_117 : decode cL_isStore 117 = .ok (.iconst 3, 1) := by decide +kernel
theorem dL_isStore_118 : decode cL_isStore 118 = .ok (.iaload, 1) := by decide +kernel
theorem dL_isStore_119 : decode cL_isStore 119 = .ok (.iconst 1, 1) := by decide +kernel
theorem dL_isStore_120 : decode cL_isStore 120 = .ok (.isub, 1) := by decide +kernel
theorem dL_isStore_121 : decode cL_isStore 121 = .ok (.if_icmp .ne 7, 3) := by decide +kernel
theorem dL_isStore_124 : decode cL_isStore 124 = .ok (.iconst 1, 1) := by decide +kernel
theorem dL_isStore_125 : decode cL_isStore 125 = .ok (.goto 4, 3) := by decide +kernel
theorem dL_isStore_128 : decode cL_isStore 128 = .ok (.iconst 0, 1) := by decide +kernel
theorem dL_isStore_129 : decode cL_isStore 129 = .ok (.ireturn, 1) := by decide +kernel
set_option maxRecDepth 20000 in
theorem ggL_isLoad_L_in : GoodIn wsL_isLoad wsL_in := goodIn_r _ [5, 6, 7, 8, 4, 9, 10, 11] (by decide +kernel) (by decide +kernel)
set_option maxRecDepth 20000 in
theorem gL_isLoad_L_in : GoodIn wsL_isLoad (va_wsS RL 136 yL_in wsL_in) := goodIn_app (goodIn_of _ (by decide +kernel)) ggL_isLoad_L_in
set_option maxRecDepth 20000 in
theorem ggL_isLoad_L_addLoad : GoodIn wsL_isLoad wsL_addLoad := goodIn_ca (goodIn_ca (goodIn_ca (goodIn_r _ [14, 15, 16, 17, 18, 19, 1, 20, 21, 22, 23, 24, 25, 26, 27, 28, 29, 30, 31, 32, 33, 34, 35, 36, 37, 38, 39, 40, 41, 42, 43, 44, 45, 46, 47, 48, 49, 50, 51, 52, 53, 54, 55, 56, 57, 58, 59, 60, 61, 62, 63, 64, 65, 66, 67, 68, 69, 70, 71, 72, 73, 74, 75, 76, 77, 78, 79, 80, 81, 82, 83, 84, 85, 86, 87, 88, 89, 90, 91, 92] (by decide +kernel) (by decide +kernel)) (goodIn_sub (fun _ h => List.mem_cons_of_mem _ (List.mem_append_left _ (List.mem_append_left _ (List.mem_append_right _ h)))) (by decide +kernel))) (goodIn_sub (fun _ h => List.mem_cons_of_mem _ (List.mem_append_left _ (List.mem_append_right _ h))) (by decide +kernel))) (goodIn_sub (fun _ h => List.mem_cons_of_mem _ (List.mem_append_right _ h)) (by decide +kernel))
set_option maxRecDepth 20000 in
theorem gL_isLoad_L_addLoad : GoodIn wsL_isLoad (va_wsS RL 151 yL_addLoad wsL_addLoad) := goodIn_app (goodIn_of _ (by decide +kernel)) ggL_isLoad_L_addLoad
theorem dL_isLoad_0 : decode cL_isLoad 0 = .ok (.sipush 140, 3) := by decide +kernel
theorem dL_isLoad_3 : decode cL_isLoad 3 = .ok (.iconst 5, 1) := by decide +kernel
theorem dL_isLoad_4 : decode cL_isLoad 4 = .ok (.aload_n 1, 1) := by decide +kernel
theorem dL_isLoad_5 : decode cL_isLoad 5 = .ok (.iconst 4, 1) := by decide +kernel
theorem dL_isLoad_6 : decode cL_isLoad 6 = .ok (.iaload, 1) := by decide +kernel
theorem dL_isLoad_7 : decode cL_isLoad 7 = .ok (.imul, 1) := by decide +kernel
theorem dL_isLoad_8 : decode cL_isLoad 8 = .ok (.iadd, 1) := by decide +kernel
theorem dL_isLoad_9 : decode cL_isLoad 9 = .ok (.istore 4, 2) := by decide +kernel
theorem dL_isLoad_11 : decode cL_isLoad 11 = .ok (.aload_n 1, 1) := by decide +kernel
theorem dL_isLoad_12 : decode cL_isLoad 12 = .ok (.iconst 4, 1) := by decide +kernel
theorem dL_isLoad_13 : decode cL_isLoad 13 = .ok (.iaload, 1) := by decide +kernel
theorem dL_isLoad_14 : decode cL_isLoad 14 = .ok (.bipush 10, 2) := by decide +kernel
theorem dL_isLoad_16 : decode cL_isLoad 16 = .ok (.if_icmp .ne 28, 3) := by decide +kernel
theorem dL_isLoad_19 : decode cL_isLoad 19 = .ok (.aload_n 0, 1) := by decide +kernel
theorem dL_isLoad_20 : decode cL_isLoad 20 = .ok (.aload_n 2, 1) := by decide +kernel
theorem dL_isLoad_21 : decode cL_isLoad 21 = .ok (.iload_n 3, 1) := by decide +kernel
theorem dL_isLoad_22 : decode cL_isLoad 22 = .ok (.aload_n 1, 1) := by decide +kernel
theorem dL_isLoad_23 : decode cL_isLoad 23 = .ok (.iconst 0, 1) := by decide +kernel
theorem dL_isLoad_24 : decode cL_isLoad 24 = .ok (.iaload, 1) := by decide +kernel
theorem dL_isLoad_25 : decode cL_isLoad 25 = .ok (.invokestatic 136, 3) := by decide +kernel
theorem dL_isLoad_28 : decode cL_isLoad 28 = .ok (.iconst 1, 1) := by decide +kernel
theorem dL_isLoad_29 : decode cL_isLoad 29 = .ok (.iconst 1, 1) := by decide +kernel
theorem dL_isLoad_30 : decode cL_isLoad 30 = .ok (.invokestatic 151, 3) := by decide +kernel
theorem dL_isLoad_33 : decode cL_isLoad 33 = .ok (.ldc 30, 2) := by decide +kernel
theorem dL_isLoad_35 : decode cL_isLoad 35 = .ok (.if_icmp .ne 7, 3) := by decide +kernel
theorem dL_isLoad_38 : decode cL_isLoad 38 = .ok (.iconst 1, 1) := by decide +kernel
theorem dL_isLoad_39 : decode cL_isLoad 39 = .ok (.goto 4, 3) := by decide +kernel
theorem dL_isLoad_42 : decode cL_isLoad 42 = .ok (.iconst 0, 1) := by decide +kernel
theorem dL_isLoad_43 : decode cL_isLoad 43 = .ok (.ireturn, 1) := by decide +kernel
theorem dL_isLoad_44 : decode cL_isLoad 44 = .ok (.aload_n 1, 1) := by decide +kernel
theorem dL_isLoad_45 : decode cL_isLoad 45 = .ok (.iload 4, 2) := by decide +kernel
theorem dL_isLoad_47 : decode cL_isLoad 47 = .ok (.aload_n 2, 1) := by decide +kernel
theorem dL_isLoad_48 : decode cL_isLoad 48 = .ok (.iload_n 3, 1) := by decide +kernel
theorem dL_isLoad_49 : decode cL_isLoad 49 = .ok (.aload_n 1, 1) := by decide +kernel
theorem dL_isLoad_50 : decode cL_isLoad 50 = .ok (.iconst 0, 1) := by decide +kernel
theorem dL_isLoad_51 : decode cL_isLoad 51 = .ok (.iaload, 1) := by decide +kernel
theorem dL_isLoad_52 : decode cL_isLoad 52 = .ok (.invokestatic 136, 3) := by decide +kernel
theorem dL_isLoad_55 : decode cL_isLoad 55 = .ok (.iastore, 1) := by decide +kernel
theorem dL_isLoad_56 : decode cL_isLoad 56 = .ok (.aload_n 1, 1) := by decide +kernel
theorem dL_isLoad_57 : decode cL_isLoad 57 = .ok (.iload 4, 2) := by decide +kernel
theorem dL_isLoad_59 : decode cL_isLoad 59 = .ok (.iconst 1, 1) := by decide +kernel
theorem dL_isLoad_60 : decode cL_isLoad 60 = .ok (.iadd, 1) := by decide +kernel
theorem dL_isLoad_61 : decode cL_isLoad 61 = .ok (.iconst 1, 1) := by decide +kernel
theorem dL_isLoad_62 : decode cL_isLoad 62 = .ok (.aload_n 2, 1) := by decide +kernel
theorem dL_isLoad_63 : decode cL_isLoad 63 = .ok (.iload_n 3, 1) := by decide +kernel
theorem dL_isLoad_64 : decode cL_isLoad 64 = .ok (.iconst 1, 1) := by decide +kernel
theorem dL_isLoad_65 : decode cL_isLoad 65 = .ok (.iadd, 1) := by decide +kernel
theorem dL_isLoad_66 : decode cL_isLoad 66 = .ok (.bipush 50, 2) := by decide +kernel
theorem dL_isLoad_68 : decode cL_isLoad 68 = .ok (.invokestatic 136, 3) := by decide +kernel
theorem dL_isLoad_71 : decode cL_isLoad 71 = .ok (.iadd, 1) := by decide +kernel
theorem dL_isLoad_72 : decode cL_isLoad 72 = .ok (.iastore, 1) := by decide +kernel
theorem dL_isLoad_73 : decode cL_isLoad 73 = .ok (.aload_n 1, 1) := by decide +kernel
theorem dL_isLoad_74 : decode cL_isLoad 74 = .ok (.iload 4, 2) := by decide +kernel
theorem dL_isLoad_76 : decode cL_isLoad 76 = .ok (.iconst 2, 1) := by decide +kernel
theorem dL_isLoad_77 : decode cL_isLoad 77 = .ok (.iadd, 1) := by decide +kernel
theorem dL_isLoad_78 : decode cL_isLoad 78 = .ok (.iconst 1, 1) := by decide +kernel
theorem dL_isLoad_79 : decode cL_isLoad 79 = .ok (.aload_n 2, 1) := by decide +kernel
theorem dL_isLoad_80 : decode cL_isLoad 80 = .ok (.iload_n 3, 1) := by decide +kernel
theorem dL_isLoad_81 : decode cL_isLoad 81 = .ok (.iconst 2, 1) := by decide +kernel
theorem dL_isLoad_82 : decode cL_isLoad 82 = .ok (.iadd, 1) := by decide +kernel
theorem dL_isLoad_83 : decode cL_isLoad 83 = .ok (.iconst 4, 1) := by decide +kernel
theorem dL_isLoad_84 : decode cL_isLoad 84 = .ok (.invokestatic 136, 3) := by decide +kernel
theorem dL_isLoad_87 : decode cL_isLoad 87 = .ok (.iadd, 1) := by decide +kernel
theorem dL_isLoad_88 : decode cL_isLoad 88 = .ok (.iastore, 1) := by decide +kernel
theorem dL_isLoad_89 : decode cL_isLoad 89 = .ok (.aload_n 1, 1) := by decide +kernel
theorem dL_isLoad_90 : decode cL_isLoad 90 = .ok (.iconst 4, 1) := by decide +kernel
theorem dL_isLoad_91 : decode cL_isLoad 91 = .ok (.dup2, 1) := by decide +kernel
theorem dL_isLoad_92 : decode cL_isLoad 92 = .ok (.iaload, 1) := by decide +kernel
theorem dL_isLoad_93 : decode cL_isLoad 93 = .ok (.iconst 1, 1) := by decide +kernel
theorem dL_isLoad_94 : decode cL_isLoad 94 = .ok (.iadd, 1) := by decide +kernel
theorem dL_isLoad_95 : decode cL_isLoad 95 = .ok (.iastore, 1) := by decide +kernel
theorem dL_isLoad_96 : decode cL_isLoad 96 = .ok (.aload_n 0, 1) := by decide +kernel
theorem dL_isLoad_97 : decode cL_isLoad 97 = .ok (.aload_n 1, 1) := by decide +kernel
theorem dL_isLoad_98 : decode cL_isLoad 98 = .ok (.iload 4, 2) := by decide +kernel
theorem dL_isLoad_100 : decode cL_isLoad 100 = .ok (.iaload, 1) := by decide +kernel
theorem dL_isLoad_101 : decode cL_isLoad 101 = .ok (.aload_n 1, 1) := by decide +kernel
theorem dL_isLoad_102 : decode cL_isLoad 102 = .ok (.iload 4, 2) := by decide +kernel
theorem dL_isLoad_104 : decode cL_isLoad 104 = .ok (.iconst 1, 1) := by decide +kernel
theorem dL_isLoad_105 : decode cL_isLoad 105 = .ok (.iadd, 1) := by decide +kernel
theorem dL_isLoad_106 : decode cL_isLoad 106 = .ok (.iaload, 1) := by decide +kernel
theorem dL_isLoad_107 : decode cL_isLoad 107 = .ok (.aload_n 1, 1) := by decide +kernel
theorem dL_isLoad_108 : decode cL_isLoad 108 = .ok (.iload 4, 2) := by decide +kernel
theorem dL_isLoad_110 : decode cL_isLoad 110 = .ok (.iconst 2, 1) := by decide +kernel
theorem dL_isLoad_111 : decode cL_isLoad 111 = .ok (.iadd, 1) := by decide +kernel
theorem dL_isLoad_112 : decode cL_isLoad 112 = .ok (.iaload, 1) := by decide +kernel
theorem dL_isLoad_113 : decode cL_isLoad 113 = .ok (.invokestatic 151, 3) := by decide +kernel
theorem dL_isLoad_116 : decode cL_isLoad 116 = .ok (.aload_n 1, 1) := by decide +kernel
theorem dL_isLoad_117 : decode cL_isLoad 117 = .ok (.iconst 4, 1) := by decide +kernel
theorem dL_isLoad_118 : decode cL_isLoad 118 = .ok (.iaload, 1) := by decide +kernel
theorem dL_isLoad_119 : decode cL_isLoad 119 = .ok (.iconst 1, 1) := by decide +kernel
theorem dL_isLoad_120 : decode cL_isLoad 120 = .ok (.isub, 1) := by decide +kernel
theorem dL_isLoad_121 : decode cL_isLoad 121 = .ok (.if_icmp .ne 7, 3) := by decide +kernel
theorem dL_isLoad_124 : decode cL_isLoad 124 = .ok (.iconst 1, 1) := by decide +kernel
theorem dL_isLoad_125 : decode cL_isLoad 125 = .ok (.goto 4, 3) := by decide +kernel
theorem dL_isLoad_128 : decode cL_isLoad 128 = .ok (.iconst 0, 1) := by decide +kernel
theorem dL_isLoad_129 : decode cL_isLoad 129 = .ok (.ireturn, 1) := by decide +kernel
set_option maxRecDepth 20000 in
theorem ggL_begun_X8_init : GoodIn wsL_begun wsX8_init := goodIn_r _ [8, 9, 10, 11, 12, 13, 14, 15, 16, 17, 18, 19, 20, 21, 22, 23, 24, 25, 26, 27, 28, 29, 30, 31, 32, 33, 34, 35, 36, 37, 38, 39, 40, 41, 42, 43, 44, 45, 46, 47, 48, 49, 50, 51, 52, 53, 54, 55, 56, 57, 58, 59, 60, 61, 62, 63, 64, 65, 66, 67, 68, 69, 70, 301, 302, 303, 304, 305, 306, 307, 308, 309, 310, 293, 294, 295, 296, 297, 298, 299, 300, 311, 312, 313, 314, 315, 316, 317, 318, 319, 320, 321, 322, 323, 324, 325, 326, 327] (by decide +kernel) (by decide +kernel)
set_option maxRecDepth 20000 in
theorem gL_begun_X8_init : GoodIn wsL_begun (wsX8_init) := ggL_begun_X8_init
set_option maxRecDepth 20000 in
theorem ggL_begun_L_tie : GoodIn wsL_begun wsL_tie := goodIn_ca (goodIn_ca (goodIn_ca (goodIn_r _ [74, 75, 76, 77, 4, 78, 79, 80, 81, 82, 3, 83, 84, 85, 86, 87, 88, 89, 15, 90, 91, 92, 93, 94, 14, 95, 37, 96, 97, 98, 99, 100, 101, 102, 103, 104, 105, 106, 107, 108, 109, 110, 111, 112, 113, 114, 115, 38, 293, 294, 295, 296, 297, 298, 299, 300, 301, 302, 303, 304, 305, 306, 307, 308, 309, 310] (by decide +kernel) (by decide +kernel)) (goodIn_sub (fun _ h => List.mem_cons_of_mem _ (List.mem_append_left _ (List.mem_append_left _ (List.mem_append_left _ (List.mem_append_left _ (List.mem_append_right _ h)))))) (by decide +kernel))) (goodIn_sub (fun _ h => List.mem_cons_of_mem _ (List.mem_append_left _ (List.mem_append_left _ (List.mem_append_left _ (List.mem_append_right _ h))))) (by decide +kernel))) (goodIn_sub (fun _ h => List.mem_cons_of_mem _ (List.mem_append_left _ (List.mem_append_left _ (List.mem_append_right _ h)))) (by decide +kernel))
set_option maxRecDepth 20000 in
theorem gL_begun_L_tie : GoodIn wsL_begun (va_wsS RL 154 yL_tie wsL_tie) := goodIn_app (goodIn_of _ (by decide +kernel)) ggL_begun_L_tie
set_option maxRecDepth 20000 in
theorem ggL_begun_L_untie : GoodIn wsL_begun wsL_untie := goodIn_ca (goodIn_r _ [118, 76, 4, 119, 120, 121, 3, 122, 86, 87, 15, 91, 111, 112, 113, 14, 114, 115, 38, 293, 294, 295, 296, 297, 298, 299, 300, 301, 302, 303, 304, 305, 306, 307, 308, 309, 310] (by decide +kernel) (by decide +kernel)) (goodIn_sub (fun _ h => List.mem_cons_of_mem _ (List.mem_append_left _ (List.mem_append_left _ (List.mem_append_left _ (List.mem_append_right _ h))))) (by decide +kernel))
set_option maxRecDepth 20000 in
theorem gL_begun_L_untie : GoodIn wsL_begun (va_wsS RL 157 yL_untie wsL_untie) := goodIn_app (goodIn_of _ (by decide +kernel)) ggL_begun_L_untie
set_option maxRecDepth 20000 in
theorem ggL_begun_L_litShare : GoodIn wsL_begun wsL_litShare := goodIn_ca (goodIn_r _ [125, 75, 5, 126, 127, 128, 3, 129, 84, 85, 27, 130, 131, 132, 133, 26, 134, 135, 66, 136, 293, 294, 295, 296, 297, 298, 299, 300, 319, 320, 321, 328, 329, 330, 331, 332, 333] (by decide +kernel) (by decide +kernel)) (goodIn_sub (fun _ h => List.mem_cons_of_mem _ (List.mem_append_left _ (List.mem_append_left _ (List.mem_append_left _ (List.mem_append_left _ (List.mem_append_right _ h)))))) (by decide +kernel))
set_option maxRecDepth 20000 in
theorem gL_begun_L_litShare : GoodIn wsL_begun (va_wsS RL 159 yL_litShare wsL_litShare) := goodIn_app (goodIn_of _ (by decide +kernel)) ggL_begun_L_litShare
set_option maxRecDepth 20000 in
theorem ggL_begun_X8_islands : GoodIn wsL_begun wsX8_islands := goodIn_r _ [140, 15, 141, 142, 143, 14, 144, 115, 38, 293, 294, 295, 296, 297, 298, 299, 300, 301, 302, 303, 304, 305, 306, 307, 308, 309, 310] (by decide +kernel) (by decide +kernel)
set_option maxRecDepth 20000 in
theorem gL_begun_X8_islands : GoodIn wsL_begun (wsV RL 162 RX8 yX8_islands wsX8_islands) := goodIn_app (goodIn_of _ (by decide +kernel)) ggL_begun_X8_islands
set_option maxRecDepth 20000 in
theorem ggL_begun_L_in : GoodIn wsL_begun wsL_in := goodIn_r _ [147, 148, 149, 150, 73, 151, 152, 153] (by decide +kernel) (by decide +kernel)
set_option maxRecDepth 20000 in
theorem gL_begun_L_in : GoodIn wsL_begun (va_wsS RL 136 yL_in wsL_in) := goodIn_app (goodIn_of _ (by decide +kernel)) ggL_begun_L_in
set_option maxRecDepth 20000 in
theorem ggL_begun_L_addSite : GoodIn wsL_begun wsL_addSite := goodIn_ca (goodIn_r _ [156, 76, 4, 157, 158, 159, 3, 160, 86, 87, 15, 90, 161, 162, 163, 14, 164, 115, 165, 166, 167, 168, 38, 169, 170, 171, 172, 43, 173, 174, 175, 176, 177, 42, 39, 40, 293, 294, 295, 296, 297, 298, 299, 300, 301, 302, 303, 304, 305, 306, 307, 308, 309, 310] (by decide +kernel) (by decide +kernel)) (goodIn_sub (fun _ h => List.mem_cons_of_mem _ (List.mem_append_left _ (List.mem_append_left _ (List.mem_append_left _ (List.mem_append_right _ h))))) (by decide +kernel))
set_option maxRecDepth 20000 in
theorem gL_begun_L_addSite : GoodIn wsL_begun (va_wsS RL 165 yL_addSite wsL_addSite) := goodIn_app (goodIn_of _ (by decide +kernel)) ggL_begun_L_addSite
set_option maxRecDepth 20000 in
theorem ggL_begun_L_isLine : GoodIn wsL_begun wsL_isLine := goodIn_ca (goodIn_ca (goodIn_ca (goodIn_r _ [180, 78, 79, 181, 182, 73, 183, 184, 185, 76, 4, 186, 187, 188, 3, 189, 190, 191, 86, 87, 15, 192, 193, 194, 195, 196, 90, 197, 198, 199, 200, 201, 202, 203, 204, 14, 205, 173, 39, 40, 293, 294, 295, 296, 297, 298, 299, 300, 301, 302, 303, 304, 305, 306, 307, 308, 309, 310] (by decide +kernel) (by decide +kernel)) (goodIn_sub (fun _ h => List.mem_cons_of_mem _ (List.mem_append_left _ (List.mem_append_right _ h))) (by decide +kernel))) (goodIn_sub (fun _ h => List.mem_cons_of_mem _ (List.mem_append_left _ (List.mem_append_left _ (List.mem_append_left _ (List.mem_append_right _ h))))) (by decide +kernel))) (goodIn_sub (fun _ h => List.mem_cons_of_mem _ (List.mem_append_right _ h)) (by decide +kernel))
set_option maxRecDepth 20000 in
theorem gL_begun_L_isLine : GoodIn wsL_begun (va_wsS RL 167 yL_isLine wsL_isLine) := goodIn_app (goodIn_of _ (by decide +kernel)) ggL_begun_L_isLine
set_option maxRecDepth 20000 in
theorem ggL_begun_L_isGenerator : GoodIn wsL_begun wsL_isGenerator := goodIn_ca (goodIn_ca (goodIn_ca (goodIn_r _ [208, 209, 210, 106, 211, 79, 145, 146, 73, 147, 148, 149, 150, 151, 152, 153, 212, 213, 214, 184, 185, 76, 4, 78, 215, 216, 217, 3, 218, 86, 87, 219, 19, 220, 221, 222, 223, 193, 194, 195, 196, 15, 90, 197, 198, 199, 200, 201, 224, 225, 226, 190, 191, 227, 228, 229, 230, 10, 11, 231, 232, 233, 234, 235, 236, 237, 238, 239, 18, 240, 241, 50, 293, 294, 295, 296, 297, 298, 299, 300, 311, 312, 313, 314, 315, 334, 335, 336, 337, 338, 339, 340, 341, 301, 302, 303, 304, 305, 306, 307, 308, 309, 310] (by decide +kernel) (by decide +kernel)) (goodIn_sub (fun _ h => List.mem_cons_of_mem _ (List.mem_append_left _ (List.mem_append_left _ (List.mem_append_left _ (List.mem_append_right _ h))))) (by decide +kernel))) (goodIn_sub (fun _ h => List.mem_cons_of_mem _ (List.mem_append_right _ h)) (by decide +kernel))) (goodIn_sub (fun _ h => List.mem_cons_of_mem _ (List.mem_append_left _ (List.mem_append_right _ h))) (by decide +kernel))
set_option maxRecDepth 20000 in
theorem gL_begun_L_isGenerator : GoodIn wsL_begun (va_wsS RL 171 yL_isGenerator wsL_isGenerator) := goodIn_app (goodIn_of _ (by decide +kernel)) ggL_begun_L_isGenerator
set_option maxRecDepth 20000 in
theorem ggL_begun_L_isStore : GoodIn wsL_begun wsL_isStore := goodIn_ca (goodIn_ca (goodIn_ca (goodIn_r _ [244, 79, 145, 146, 73, 147, 148, 149, 150, 151, 152, 153, 245, 246, 247, 184, 185, 76, 4, 78, 248, 249, 250, 3, 251, 86, 87, 23, 252, 253, 254, 255, 193, 194, 195, 196, 15, 90, 197, 198, 199, 200, 201, 224, 225, 226, 190, 191, 256, 257, 258, 259, 10, 11, 260, 261, 262, 263, 264, 265, 22, 266, 267, 59, 293, 294, 295, 296, 297, 298, 299, 300, 316, 317, 318, 342, 343, 344, 345, 346, 301, 302, 303, 304, 305, 306, 307, 308, 309, 310] (by decide +kernel) (by decide +kernel)) (goodIn_sub (fun _ h => List.mem_cons_of_mem _ (List.mem_append_left _ (List.mem_append_left _ (List.mem_append_left _ (List.mem_append_right _ h))))) (by decide +kernel))) (goodIn_sub (fun _ h => List.mem_cons_of_mem _ (List.mem_append_right _ h)) (by decide +kernel))) (goodIn_sub (fun _ h => List.mem_cons_of_mem _ (List.mem_append_left _ (List.mem_append_right _ h))) (by decide +kernel))
set_option maxRecDepth 20000 in
theorem gL_begun_L_isStore : GoodIn wsL_begun (va_wsS RL 175 yL_isStore wsL_isStore) := goodIn_app (goodIn_of _ (by decide +kernel)) ggL_begun_L_isStore
set_option maxRecDepth 20000 in
theorem ggL_begun_L_isLoad : GoodIn wsL_begun wsL_isLoad := goodIn_ca (goodIn_ca (goodIn_ca (goodIn_r _ [270, 79, 145, 146, 73, 147, 148, 149, 150, 151, 152, 153, 271, 272, 273, 184, 185, 76, 4, 78, 274, 275, 276, 3, 277, 86, 87, 27, 130, 193, 194, 195, 196, 15, 90, 197, 198, 199, 200, 201, 224, 225, 226, 190, 191, 278, 279, 280, 26, 281, 135, 66, 65, 282, 283, 284, 285, 286, 287, 10, 11, 288, 289, 290, 291, 292, 293, 294, 295, 296, 297, 298, 299, 300, 319, 320, 321, 301, 302, 303, 304, 305, 306, 307, 308, 309, 310, 328, 329, 330, 331, 332, 333] (by decide +kernel) (by decide +kernel)) (goodIn_sub (fun _ h => List.mem_cons_of_mem _ (List.mem_append_left _ (List.mem_append_left _ (List.mem_append_left _ (List.mem_append_right _ h))))) (by decide +kernel))) (goodIn_sub (fun _ h => List.mem_cons_of_mem _ (List.mem_append_right _ h)) (by decide +kernel))) (goodIn_sub (fun _ h => List.mem_cons_of_mem _ (List.mem_append_left _ (List.mem_append_right _ h))) (by decide +kernel))
set_option maxRecDepth 20000 in
theorem gL_begun_L_isLoad : GoodIn wsL_begun (va_wsS RL 178 yL_isLoad wsL_isLoad) := goodIn_app (goodIn_of _ (by decide +kernel)) ggL_begun_L_isLoad
theorem dL_begun_0 : decode cL_begun 0 = .ok (.new 10, 3) := by decide +kernel
theorem dL_begun_3 : decode cL_begun 3 = .ok (.dup, 1) := by decide +kernel
theorem dL_begun_4 : decode cL_begun 4 = .ok (.invokespecial 153, 3) := by decide +kernel
theorem dL_begun_7 : decode cL_begun 7 = .ok (.astore_n 2, 1) := by decide +kernel
theorem dL_begun_8 : decode cL_begun 8 = .ok (.aload_n 1, 1) := by decide +kernel
theorem dL_begun_9 : decode cL_begun 9 = .ok (.bipush 6, 2) := by decide +kernel
theorem dL_begun_11 : decode cL_begun 11 = .ok (.iconst 2, 1) := by decide +kernel
theorem dL_begun_12 : decode cL_begun 12 = .ok (.iastore, 1) := by decide +kernel
theorem dL_begun_13 : decode cL_begun 13 = .ok (.aload_n 2, 1) := by decide +kernel
theorem dL_begun_14 : decode cL_begun 14 = .ok (.invokestatic 154, 3) := by decide +kernel
theorem dL_begun_17 : decode cL_begun 17 = .ok (.ldc 17, 2) := by decide +kernel
theorem dL_begun_19 : decode cL_begun 19 = .ok (.if_icmp .ne 33, 3) := by decide +kernel
theorem dL_begun_22 : decode cL_begun 22 = .ok (.aload_n 2, 1) := by decide +kernel
theorem dL_begun_23 : decode cL_begun 23 = .ok (.invokestatic 157, 3) := by decide +kernel
theorem dL_begun_26 : decode cL_begun 26 = .ok (.ldc 17, 2) := by decide +kernel
theorem dL_begun_28 : decode cL_begun 28 = .ok (.if_icmp .ne 24, 3) := by decide +kernel
theorem dL_begun_31 : decode cL_begun 31 = .ok (.aload_n 2, 1) := by decide +kernel
theorem dL_begun_32 : decode cL_begun 32 = .ok (.invokestatic 159, 3) := by decide +kernel
theorem dL_begun_35 : decode cL_begun 35 = .ok (.ldc 121, 2) := by decide +kernel
theorem dL_begun_37 : decode cL_begun 37 = .ok (.fcmp .l, 1) := by decide +kernel
theorem dL_begun_38 : decode cL_begun 38 = .ok (.ifCond .ne 14, 3) := by decide +kernel
theorem dL_begun_41 : decode cL_begun 41 = .ok (.aload_n 2, 1) := by decide +kernel
theorem dL_begun_42 : decode cL_begun 42 = .ok (.invokevirtual 162, 3) := by decide +kernel
theorem dL_begun_45 : decode cL_begun 45 = .ok (.ifCond .ne 7, 3) := by decide +kernel
theorem dL_begun_48 : decode cL_begun 48 = .ok (.iconst 1, 1) := by decide +kernel
theorem dL_begun_49 : decode cL_begun 49 = .ok (.goto 4, 3) := by decide +kernel
theorem dL_begun_52 : decode cL_begun 52 = .ok (.iconst 0, 1) := by decide +kernel
theorem dL_begun_53 : decode cL_begun 53 = .ok (.istore_n 3, 1) := by decide +kernel
theorem dL_begun_54 : decode cL_begun 54 = .ok (.iconst 1, 1) := by decide +kernel
theorem dL_begun_55 : decode cL_begun 55 = .ok (.aload_n 0, 1) := by decide +kernel
theorem dL_begun_56 : decode cL_begun 56 = .ok (.iconst 0, 1) := by decide +kernel
theorem dL_begun_57 : decode cL_begun 57 = .ok (.bipush 6, 2) := by decide +kernel
theorem dL_begun_59 : decode cL_begun 59 = .ok (.invokestatic 136, 3) := by decide +kernel
theorem dL_begun_62 : decode cL_begun 62 = .ok (.iadd, 1) := by decide +kernel
theorem dL_begun_63 : decode cL_begun 63 = .ok (.istore 4, 2) := by decide +kernel
theorem dL_begun_65 : decode cL_begun 65 = .ok (.iload 4, 2) := by decide +kernel
theorem dL_begun_67 : decode cL_begun 67 = .ok (.ifCond .le 36, 3) := by decide +kernel
theorem dL_begun_70 : decode cL_begun 70 = .ok (.aload_n 1, 1) := by decide +kernel
theorem dL_begun_71 : decode cL_begun 71 = .ok (.iconst 0, 1) := by decide +kernel
theorem dL_begun_72 : decode cL_begun 72 = .ok (.dup2, 1) := by decide +kernel
theorem dL_begun_73 : decode cL_begun 73 = .ok (.iaload, 1) := by decide +kernel
theorem dL_begun_74 : decode cL_begun 74 = .ok (.iconst 1, 1) := by decide +kernel
theorem dL_begun_75 : decode cL_begun 75 = .ok (.iadd, 1) := by decide +kernel
theorem dL_begun_76 : decode cL_begun 76 = .ok (.iastore, 1) := by decide +kernel
theorem dL_begun_77 : decode cL_begun 77 = .ok (.iload_n 3, 1) := by decide +kernel
theorem dL_begun_78 : decode cL_begun 78 = .ok (.aload_n 2, 1) := by decide +kernel
theorem dL_begun_79 : decode cL_begun 79 = .ok (.invokestatic 165, 3) := by decide +kernel
theorem dL_begun_82 : decode cL_begun 82 = .ok (.aload_n 1, 1) := by decide +kernel
theorem dL_begun_83 : decode cL_begun 83 = .ok (.iconst 0, 1) := by decide +kernel
theorem dL_begun_84 : decode cL_begun 84 = .ok (.iaload, 1) := by decide +kernel
theorem dL_begun_85 : decode cL_begun 85 = .ok (.iconst 1, 1) := by decide +kernel
theorem dL_begun_86 : decode cL_begun 86 = .ok (.isub, 1) := by decide +kernel
theorem dL_begun_87 : decode cL_begun 87 = .ok (.if_icmp .ne 7, 3) := by decide +kernel
theorem dL_begun_90 : decode cL_begun 90 = .ok (.iconst 1, 1) := by decide +kernel
theorem dL_begun_91 : decode cL_begun 91 = .ok (.goto 4, 3) := by decide +kernel
theorem dL_begun_94 : decode cL_begun 94 = .ok (.iconst 0, 1) := by decide +kernel
theorem dL_begun_95 : decode cL_begun 95 = .ok (.iand, 1) := by decide +kernel
theorem dL_begun_96 : decode cL_begun 96 = .ok (.istore_n 3, 1) := by decide +kernel
theorem dL_begun_97 : decode cL_begun 97 = .ok (.iinc 4 (-1), 3) := by decide +kernel
theorem dL_begun_100 : decode cL_begun 100 = .ok (.goto (-35), 3) := by decide +kernel
theorem dL_begun_103 : decode cL_begun 103 = .ok (.aload_n 0, 1) := by decide +kernel
theorem dL_begun_104 : decode cL_begun 104 = .ok (.iconst 1, 1) := by decide +kernel
theorem dL_begun_105 : decode cL_begun 105 = .ok (.bipush 9, 2) := by decide +kernel
theorem dL_begun_107 : decode cL_begun 107 = .ok (.invokestatic 136, 3) := by decide +kernel
theorem dL_begun_110 : decode cL_begun 110 = .ok (.istore 4, 2) := by decide +kernel
theorem dL_begun_112 : decode cL_begun 112 = .ok (.iload 4, 2) := by decide +kernel
theorem dL_begun_114 : decode cL_begun 114 = .ok (.ifCond .le 41, 3) := by decide +kernel
theorem dL_begun_117 : decode cL_begun 117 = .ok (.iload_n 3, 1) := by decide +kernel
theorem dL_begun_118 : decode cL_begun 118 = .ok (.aload_n 2, 1) := by decide +kernel
theorem dL_begun_119 : decode cL_begun 119 = .ok (.aload_n 1, 1) := by decide +kernel
theorem dL_begun_120 : decode cL_begun 120 = .ok (.aload_n 0, 1) := by decide +kernel
theorem dL_begun_121 : decode cL_begun 121 = .ok (.bipush 10, 2) := by decide +kernel
theorem dL_begun_123 : decode cL_begun 123 = .ok (.iload 4, 2) := by decide +kernel
theorem dL_begun_125 : decode cL_begun 125 = .ok (.iadd, 1) := by decide +kernel
theorem dL_begun_126 : decode cL_begun 126 = .ok (.aload_n 1, 1) := by decide +kernel
theorem dL_begun_127 : decode cL_begun 127 = .ok (.iconst 0, 1) := by decide +kernel
theorem dL_begun_128 : decode cL_begun 128 = .ok (.iaload, 1) := by decide +kernel
theorem dL_begun_129 : decode cL_begun 129 = .ok (.invokestatic 136, 3) := by decide +kernel
theorem dL_begun_132 : decode cL_begun 132 = .ok (.aload_n 0, 1) := by decide +kernel
theorem dL_begun_133 : decode cL_begun 133 = .ok (.bipush 20, 2) := by decide +kernel
theorem dL_begun_135 : decode cL_begun 135 = .ok (.iload 4, 2) := by decide +kernel
theorem dL_begun_137 : decode cL_begun 137 = .ok (.iadd, 1) := by decide +kernel
theorem dL_begun_138 : decode cL_begun 138 = .ok (.aload_n 1, 1) := by decide +kernel
theorem dL_begun_139 : decode cL_begun 139 = .ok (.iconst 0, 1) := by decide +kernel
theorem dL_begun_140 : decode cL_begun 140 = .ok (.iaload, 1) := by decide +kernel
theorem dL_begun_141 : decode cL_begun 141 = .ok (.invokestatic 136, 3) := by decide +kernel
theorem dL_begun_144 : decode cL_begun 144 = .ok (.invokestatic 167, 3) := by decide +kernel
theorem dL_begun_147 : decode cL_begun 147 = .ok (.iand, 1) := by decide +kernel
theorem dL_begun_148 : decode cL_begun 148 = .ok (.istore_n 3, 1) := by decide +kernel
theorem dL_begun_149 : decode cL_begun 149 = .ok (.iinc 4 (-1), 3) := by decide +kernel
theorem dL_begun_152 : decode cL_begun 152 = .ok (.goto (-40), 3) := by decide +kernel
theorem dL_begun_155 : decode cL_begun 155 = .ok (.iconst 1, 1) := by decide +kernel
theorem dL_begun_156 : decode cL_begun 156 = .ok (.aload_n 0, 1) := by decide +kernel
theorem dL_begun_157 : decode cL_begun 157 = .ok (.iconst 2, 1) := by decide +kernel
theorem dL_begun_158 : decode cL_begun 158 = .ok (.bipush 6, 2) := by decide +kernel
theorem dL_begun_160 : decode cL_begun 160 = .ok (.invokestatic 136, 3) := by decide +kernel
theorem dL_begun_163 : decode cL_begun 163 = .ok (.iadd, 1) := by decide +kernel
theorem dL_begun_164 : decode cL_begun 164 = .ok (.istore 4, 2) := by decide +kernel
theorem dL_begun_166 : decode cL_begun 166 = .ok (.iload 4, 2) := by decide +kernel
theorem dL_begun_168 : decode cL_begun 168 = .ok (.ifCond .le 26, 3) := by decide +kernel
theorem dL_begun_171 : decode cL_begun 171 = .ok (.iload_n 3, 1) := by decide +kernel
theorem dL_begun_172 : decode cL_begun 172 = .ok (.aload_n 2, 1) := by decide +kernel
theorem dL_begun_173 : decode cL_begun 173 = .ok (.aload_n 1, 1) := by decide +kernel
theorem dL_begun_174 : decode cL_begun 174 = .ok (.aload_n 0, 1) := by decide +kernel
theorem dL_begun_175 : decode cL_begun 175 = .ok (.bipush 30, 2) := by decide +kernel
theorem dL_begun_177 : decode cL_begun 177 = .ok (.bipush 7, 2) := by decide +kernel
theorem dL_begun_179 : decode cL_begun 179 = .ok (.iload 4, 2) := by decide +kernel
theorem dL_begun_181 : decode cL_begun 181 = .ok (.imul, 1) := by decide +kernel
theorem dL_begun_182 : decode cL_begun 182 = .ok (.iadd, 1) := by decide +kernel
theorem dL_begun_183 : decode cL_begun 183 = .ok (.invokestatic 171, 3) := by decide +kernel
theorem dL_begun_186 : decode cL_begun 186 = .ok (.iand, 1) := by decide +kernel
theorem dL_begun_187 : decode cL_begun 187 = .ok (.istore_n 3, 1) := by decide +kernel
theorem dL_begun_188 : decode cL_begun 188 = .ok (.iinc 4 (-1), 3) := by decide +kernel
theorem dL_begun_191 : decode cL_begun 191 = .ok (.goto (-25), 3) := by decide +kernel
theorem dL_begun_194 : decode cL_begun 194 = .ok (.aload_n 0, 1) := by decide +kernel
theorem dL_begun_195 : decode cL_begun 195 = .ok (.iconst 3, 1) := by decide +kernel
theorem dL_begun_196 : decode cL_begun 196 = .ok (.iconst 5, 1) := by decide +kernel
theorem dL_begun_197 : decode cL_begun 197 = .ok (.invokestatic 136, 3) := by decide +kernel
theorem dL_begun_200 : decode cL_begun 200 = .ok (.istore 4, 2) := by decide +kernel
theorem dL_begun_202 : decode cL_begun 202 = .ok (.iload 4, 2) := by decide +kernel
theorem dL_begun_204 : decode cL_begun 204 = .ok (.ifCond .le 25, 3) := by decide +kernel
theorem dL_begun_207 : decode cL_begun 207 = .ok (.iload_n 3, 1) := by decide +kernel
theorem dL_begun_208 : decode cL_begun 208 = .ok (.aload_n 2, 1) := by decide +kernel
theorem dL_begun_209 : decode cL_begun 209 = .ok (.aload_n 1, 1) := by decide +kernel
theorem dL_begun_210 : decode cL_begun 210 = .ok (.aload_n 0, 1) := by decide +kernel
theorem dL_begun_211 : decode cL_begun 211 = .ok (.bipush 80, 2) := by decide +kernel
theorem dL_begun_213 : decode cL_begun 213 = .ok (.iconst 3, 1) := by decide +kernel
theorem dL_begun_214 : decode cL_begun 214 = .ok (.iload 4, 2) := by decide +kernel
theorem dL_begun_216 : decode cL_begun 216 = .ok (.imul, 1) := by decide +kernel
theorem dL_begun_217 : decode cL_begun 217 = .ok (.iadd, 1) := by decide +kernel
theorem dL_begun_218 : decode cL_begun 218 = .ok (.invokestatic 175, 3) := by decide +kernel
theorem dL_begun_221 : decode cL_begun 221 = .ok (.iand, 1) := by decide +kernel
theorem dL_begun_222 : decode cL_begun 222 = .ok (.istore_n 3, 1) := by decide +kernel
theorem dL_begun_223 : decode cL_begun 223 = .ok (.iinc 4 (-1), 3) := by decide +kernel
theorem dL_begun_226 : decode cL_begun 226 = .ok (.goto (-24), 3) := by decide +kernel
theorem dL_begun_229 : decode cL_begun 229 = .ok (.iconst 1, 1) := by decide +kernel
theorem dL_begun_230 : decode cL_begun 230 = .ok (.aload_n 0, 1) := by decide +kernel
theorem dL_begun_231 : decode cL_begun 231 = .ok (.iconst 4, 1) := by decide +kernel
theorem dL_begun_232 : decode cL_begun 232 = .ok (.bipush 10, 2) := by decide +kernel
theorem dL_begun_234 : decode cL_begun 234 = .ok (.invokestatic 136, 3) := by decide +kernel
theorem dL_begun_237 : decode cL_begun 237 = .ok (.iadd, 1) := by decide +kernel
theorem dL_begun_238 : decode cL_begun 238 = .ok (.istore 4, 2) := by decide +kernel
theorem dL_begun_240 : decode cL_begun 240 = .ok (.iload 4, 2) := by decide +kernel
theorem dL_begun_242 : decode cL_begun 242 = .ok (.ifCond .le 25, 3) := by decide +kernel
theorem dL_begun_245 : decode cL_begun 245 = .ok (.iload_n 3, 1) := by decide +kernel
theorem dL_begun_246 : decode cL_begun 246 = .ok (.aload_n 2, 1) := by decide +kernel
theorem dL_begun_247 : decode cL_begun 247 = .ok (.aload_n 1, 1) := by decide +kernel
theorem dL_begun_248 : decode cL_begun 248 = .ok (.aload_n 0, 1) := by decide +kernel
theorem dL_begun_249 : decode cL_begun 249 = .ok (.bipush 96, 2) := by decide +kernel
theorem dL_begun_251 : decode cL_begun 251 = .ok (.iconst 3, 1) := by decide +kernel
theorem dL_begun_252 : decode cL_begun 252 = .ok (.iload 4, 2) := by decide +kernel
theorem dL_begun_254 : decode cL_begun 254 = .ok (.imul, 1) := by decide +kernel
theorem dL_begun_255 : decode cL_begun 255 = .ok (.iadd, 1) := by decide +kernel
theorem dL_begun_256 : decode cL_begun 256 = .ok (.invokestatic 178, 3) := by decide +kernel
theorem dL_begun_259 : decode cL_begun 259 = .ok (.iand, 1) := by decide +kernel
theorem dL_begun_260 : decode cL_begun 260 = .ok (.istore_n 3, 1) := by decide +kernel
theorem dL_begun_261 : decode cL_begun 261 = .ok (.iinc 4 (-1), 3) := by decide +kernel
theorem dL_begun_264 : decode cL_begun 264 = .ok (.goto (-24), 3) := by decide +kernel
theorem dL_begun_267 : decode cL_begun 267 = .ok (.iload_n 3, 1) := by decide +kernel
theorem dL_begun_268 : decode cL_begun 268 = .ok (.ifCond .eq 7, 3) := by decide +kernel
theorem dL_begun_271 : decode cL_begun 271 = .ok (.aload_n 2, 1) := by decide +kernel
theorem dL_begun_272 : decode cL_begun 272 = .ok (.goto 4, 3) := by decide +kernel
theorem dL_begun_275 : decode cL_begun 275 = .ok (.aconst_null, 1) := by decide +kernel
theorem dL_begun_276 : decode cL_begun 276 = .ok (.areturn, 1) := by decide +kernel
theorem dL_island_0 : decode cL_island 0 = .ok (.iconst 1, 1) := by decide +kernel
theorem dL_island_1 : decode cL_island 1 = .ok (.iload_n 1, 1) := by decide +kernel
theorem dL_island_2 : decode cL_island 2 = .ok (.ishl, 1) := by decide +kernel
theorem dL_island_3 : decode cL_island 3 = .ok (.istore_n 2, 1) := by decide +kernel
theorem dL_island_4 : decode cL_island 4 = .ok (.iconst 0, 1) := by decide +kernel
theorem dL_island_5 : decode cL_island 5 = .ok (.istore_n 3, 1) := by decide +kernel
theorem dL_island_6 : decode cL_island 6 = .ok (.iload_n 3, 1) := by decide +kernel
theorem dL_island_7 : decode cL_island 7 = .ok (.bipush 6, 2) := by decide +kernel
theorem dL_island_9 : decode cL_island 9 = .ok (.if_icmp .ge 110, 3) := by decide +kernel
theorem dL_island_12 : decode cL_island 12 = .ok (.iconst 0, 1) := by decide +kernel
theorem dL_island_13 : decode cL_island 13 = .ok (.istore 4, 2) := by decide +kernel
theorem dL_island_15 : decode cL_island 15 = .ok (.iload 4, 2) := by decide +kernel
theorem dL_island_17 : decode cL_island 17 = .ok (.aload_n 0, 1) := by decide +kernel
theorem dL_island_18 : decode cL_island 18 = .ok (.iconst 1, 1) := by decide +kernel
theorem dL_island_19 : decode cL_island 19 = .ok (.iaload, 1) := by decide +kernel
theorem dL_island_20 : decode cL_island 20 = .ok (.if_icmp .ge 93, 3) := by decide +kernel
theorem dL_island_23 : decode cL_island 23 = .ok (.aload_n 0, 1) := by decide +kernel
theorem dL_island_24 : decode cL_island 24 = .ok (.bipush 22, 2) := by decide +kernel
theorem dL_island_26 : decode cL_island 26 = .ok (.iconst 3, 1) := by decide +kernel
theorem dL_island_27 : decode cL_island 27 = .ok (.iload 4, 2) := by decide +kernel
theorem dL_island_29 : decode cL_island 29 = .ok (.imul, 1) := by decide +kernel
theorem dL_island_30 : decode cL_island 30 = .ok (.iadd, 1) := by decide +kernel
theorem dL_island_31 : decode cL_island 31 = .ok (.iaload, 1) := by decide +kernel
theorem dL_island_32 : decode cL_island 32 = .ok (.iconst 1, 1) := by decide +kernel
theorem dL_island_33 : decode cL_island 33 = .ok (.if_icmp .ne 36, 3) := by decide +kernel
theorem dL_island_36 : decode cL_island 36 = .ok (.iload_n 2, 1) := by decide +kernel
theorem dL_island_37 : decode cL_island 37 = .ok (.aload_n 0, 1) := by decide +kernel
theorem dL_island_38 : decode cL_island 38 = .ok (.bipush 20, 2) := by decide +kernel
theorem dL_island_40 : decode cL_island 40 = .ok (.iconst 3, 1) := by decide +kernel
theorem dL_island_41 : decode cL_island 41 = .ok (.iload 4, 2) := by decide +kernel
theorem dL_island_43 : decode cL_island 43 = .ok (.imul, 1) := by decide +kernel
theorem dL_island_44 : decode cL_island 44 = .ok (.iadd, 1) := by decide +kernel
theorem dL_island_45 : decode cL_island 45 = .ok (.iaload, 1) := by decide +kernel
theorem dL_island_46 : decode cL_island 46 = .ok (.ishr, 1) := by decide +kernel
theorem dL_island_47 : decode cL_island 47 = .ok (.iload_n 2, 1) := by decide +kernel
theorem dL_island_48 : decode cL_island 48 = .ok (.aload_n 0, 1) := by decide +kernel
theorem dL_island_49 : decode cL_island 49 = .ok (.bipush 21, 2) := by decide +kernel
theorem dL_island_51 : decode cL_island 51 = .ok (.iconst 3, 1) := by decide +kernel
theorem dL_island_52 : decode cL_island 52 = .ok (.iload 4, 2) := by decide +kernel
theorem dL_island_54 : decode cL_island 54 = .ok (.imul, 1) := by decide +kernel
theorem dL_island_55 : decode cL_island 55 = .ok (.iadd, 1) := by decide +kernel
theorem dL_island_56 : decode cL_island 56 = .ok (.iaload, 1) := by decide +kernel
theorem dL_island_57 : decode cL_island 57 = .ok (.ishr, 1) := by decide +kernel
theorem dL_island_58 : decode cL_island 58 = .ok (.ior, 1) := by decide +kernel
theorem dL_island_59 : decode cL_island 59 = .ok (.iconst 1, 1) := by decide +kernel
theorem dL_island_60 : decode cL_island 60 = .ok (.iand, 1) := by decide +kernel
theorem dL_island_61 : decode cL_island 61 = .ok (.iconst 1, 1) := by decide +kernel
theorem dL_island_62 : decode cL_island 62 = .ok (.if_icmp .ne 7, 3) := by decide +kernel
theorem dL_island_65 : decode cL_island 65 = .ok (.iconst 1, 1) := by decide +kernel
theorem dL_island_66 : decode cL_island 66 = .ok (.goto 4, 3) := by decide +kernel
theorem dL_island_69 : decode cL_island 69 = .ok (.iconst 0, 1) := by decide +kernel
theorem dL_island_70 : decode cL_island 70 = .ok (.istore 5, 2) := by decide +kernel
theorem dL_island_72 : decode cL_island 72 = .ok (.iload_n 2, 1) := by decide +kernel
theorem dL_island_73 : decode cL_island 73 = .ok (.iload 5, 2) := by decide +kernel
theorem dL_island_75 : decode cL_island 75 = .ok (.ifCond .eq 29, 3) := by decide +kernel
theorem dL_island_78 : decode cL_island 78 = .ok (.iconst 1, 1) := by decide +kernel
theorem dL_island_79 : decode cL_island 79 = .ok (.aload_n 0, 1) := by decide +kernel
theorem dL_island_80 : decode cL_island 80 = .ok (.bipush 20, 2) := by decide +kernel
theorem dL_island_82 : decode cL_island 82 = .ok (.iconst 3, 1) := by decide +kernel
theorem dL_island_83 : decode cL_island 83 = .ok (.iload 4, 2) := by decide +kernel
theorem dL_island_85 : decode cL_island 85 = .ok (.imul, 1) := by decide +kernel
theorem dL_island_86 : decode cL_island 86 = .ok (.iadd, 1) := by decide +kernel
theorem dL_island_87 : decode cL_island 87 = .ok (.iaload, 1) := by decide +kernel
theorem dL_island_88 : decode cL_island 88 = .ok (.ishl, 1) := by decide +kernel
theorem dL_island_89 : decode cL_island 89 = .ok (.iconst 1, 1) := by decide +kernel
theorem dL_island_90 : decode cL_island 90 = .ok (.aload_n 0, 1) := by decide +kernel
theorem dL_island_91 : decode cL_island 91 = .ok (.bipush 21, 2) := by decide +kernel
theorem dL_island_93 : decode cL_island 93 = .ok (.iconst 3, 1) := by decide +kernel
theorem dL_island_94 : decode cL_island 94 = .ok (.iload 4, 2) := by decide +kernel
theorem dL_island_96 : decode cL_island 96 = .ok (.imul, 1) := by decide +kernel
theorem dL_island_97 : decode cL_island 97 = .ok (.iadd, 1) := by decide +kernel
theorem dL_island_98 : decode cL_island 98 = .ok (.iaload, 1) := by decide +kernel
theorem dL_island_99 : decode cL_island 99 = .ok (.ishl, 1) := by decide +kernel
theorem dL_island_100 : decode cL_island 100 = .ok (.ior, 1) := by decide +kernel
theorem dL_island_101 : decode cL_island 101 = .ok (.goto 4, 3) := by decide +kernel
theorem dL_island_104 : decode cL_island 104 = .ok (.iconst 0, 1) := by decide +kernel
theorem dL_island_105 : decode cL_island 105 = .ok (.ior, 1) := by decide +kernel
theorem dL_island_106 : decode cL_island 106 = .ok (.istore_n 2, 1) := by decide +kernel
theorem dL_island_107 : decode cL_island 107 = .ok (.iinc 4 1, 3) := by decide +kernel
theorem dL_island_110 : decode cL_island 110 = .ok (.goto (-95), 3) := by decide +kernel
theorem dL_island_113 : decode cL_island 113 = .ok (.iinc 3 1, 3) := by decide +kernel
theorem dL_island_116 : decode cL_island 116 = .ok (.goto (-110), 3) := by decide +kernel
theorem dL_island_119 : decode cL_island 119 = .ok (.iconst 0, 1) := by decide +kernel
theorem dL_island_120 : decode cL_island 120 = .ok (.istore_n 3, 1) := by decide +kernel
theorem dL_island_121 : decode cL_island 121 = .ok (.iload_n 2, 1) := by decide +kernel
theorem dL_island_122 : decode cL_island 122 = .ok (.iload_n 3, 1) := by decide +kernel
theorem dL_island_123 : decode cL_island 123 = .ok (.ishr, 1) := by decide +kernel
theorem dL_island_124 : decode cL_island 124 = .ok (.iconst 1, 1) := by decide +kernel
theorem dL_island_125 : decode cL_island 125 = .ok (.iand, 1) := by decide +kernel
theorem dL_island_126 : decode cL_island 126 = .ok (.ifCond .ne 9, 3) := by decide +kernel
theorem dL_island_129 : decode cL_island 129 = .ok (.iinc 3 1, 3) := by decide +kernel
theorem dL_island_132 : decode cL_island 132 = .ok (.goto (-11), 3) := by decide +kernel
theorem dL_island_135 : decode cL_island 135 = .ok (.iload_n 3, 1) := by decide +kernel
theorem dL_island_136 : decode cL_island 136 = .ok (.ireturn, 1) := by decide +kernel
set_option maxRecDepth 20000 in
theorem ggL_islands_L_island : GoodIn wsL_islands wsL_island := goodIn_r _ [4] (by decide +kernel) (by decide +kernel)
set_option maxRecDepth 20000 in
theorem gL_islands_L_island : GoodIn wsL_islands (va_wsS RL 181 yL_island wsL_island) := goodIn_app (goodIn_of _ (by decide +kernel)) ggL_islands_L_island
theorem dL_islands_0 : decode cL_islands 0 = .ok (.iconst 0, 1) := by decide +kernel
theorem dL_islands_1 : decode cL_islands 1 = .ok (.istore_n 1, 1) := by decide +kernel
theorem dL_islands_2 : decode cL_islands 2 = .ok (.iconst 0, 1) := by decide +kernel
theorem dL_islands_3 : decode cL_islands 3 = .ok (.istore_n 2, 1) := by decide +kernel
theorem dL_islands_4 : decode cL_islands 4 = .ok (.iload_n 2, 1) := by decide +kernel
theorem dL_islands_5 : decode cL_islands 5 = .ok (.aload_n 0, 1) := by decide +kernel
theorem dL_islands_6 : decode cL_islands 6 = .ok (.iconst 0, 1) := by decide +kernel
theorem dL_islands_7 : decode cL_islands 7 = .ok (.iaload, 1) := by decide +kernel
theorem dL_islands_8 : decode cL_islands 8 = .ok (.if_icmp .ge 26, 3) := by decide +kernel
theorem dL_islands_11 : decode cL_islands 11 = .ok (.iload_n 1, 1) := by decide +kernel
theorem dL_islands_12 : decode cL_islands 12 = .ok (.aload_n 0, 1) := by decide +kernel
theorem dL_islands_13 : decode cL_islands 13 = .ok (.iload_n 2, 1) := by decide +kernel
theorem dL_islands_14 : decode cL_islands 14 = .ok (.invokestatic 181, 3) := by decide +kernel
theorem dL_islands_17 : decode cL_islands 17 = .ok (.iload_n 2, 1) := by decide +kernel
theorem dL_islands_18 : decode cL_islands 18 = .ok (.if_icmp .ne 7, 3) := by decide +kernel
theorem dL_islands_21 : decode cL_islands 21 = .ok (.iconst 1, 1) := by decide +kernel
theorem dL_islands_22 : decode cL_islands 22 = .ok (.goto 4, 3) := by decide +kernel
theorem dL_islands_25 : decode cL_islands 25 = .ok (.iconst 0, 1) := by decide +kernel
theorem dL_islands_26 : decode cL_islands 26 = .ok (.iadd, 1) := by decide +kernel
theorem dL_islands_27 : decode cL_islands 27 = .ok (.istore_n 1, 1) := by decide +kernel
theorem dL_islands_28 : decode cL_islands 28 = .ok (.iinc 2 1, 3) := by decide +kernel
theorem dL_islands_31 : decode cL_islands 31 = .ok (.goto (-27), 3) := by decide +kernel
theorem dL_islands_34 : decode cL_islands 34 = .ok (.iload_n 1, 1) := by decide +kernel
theorem dL_islands_35 : decode cL_islands 35 = .ok (.ireturn, 1) := by decide +kernel
set_option maxRecDepth 20000 in
theorem ggL_phaseOf_L_island : GoodIn wsL_phaseOf wsL_island := goodIn_r _ [4] (by decide +kernel) (by decide +kernel)
set_option maxRecDepth 20000 in
theorem gL_phaseOf_L_island : GoodIn wsL_phaseOf (va_wsS RL 181 yL_island wsL_island) := goodIn_app (goodIn_of _ (by decide +kernel)) ggL_phaseOf_L_island
theorem dL_phaseOf_0 : decode cL_phaseOf 0 = .ok (.aload_n 0, 1) := by decide +kernel
theorem dL_phaseOf_1 : decode cL_phaseOf 1 = .ok (.iload_n 1, 1) := by decide +kernel
theorem dL_phaseOf_2 : decode cL_phaseOf 2 = .ok (.invokestatic 181, 3) := by decide +kernel
theorem dL_phaseOf_5 : decode cL_phaseOf 5 = .ok (.istore_n 2, 1) := by decide +kernel
theorem dL_phaseOf_6 : decode cL_phaseOf 6 = .ok (.iload_n 2, 1) := by decide +kernel
theorem dL_phaseOf_7 : decode cL_phaseOf 7 = .ok (.ifCond .ne 15, 3) := by decide +kernel
theorem dL_phaseOf_10 : decode cL_phaseOf 10 = .ok (.aload_n 0, 1) := by decide +kernel
theorem dL_phaseOf_11 : decode cL_phaseOf 11 = .ok (.bipush 8, 2) := by decide +kernel
theorem dL_phaseOf_13 : decode cL_phaseOf 13 = .ok (.iaload, 1) := by decide +kernel
theorem dL_phaseOf_14 : decode cL_phaseOf 14 = .ok (.iconst 1, 1) := by decide +kernel
theorem dL_phaseOf_15 : decode cL_phaseOf 15 = .ok (.if_icmp .ne 7, 3) := by decide +kernel
theorem dL_phaseOf_18 : decode cL_phaseOf 18 = .ok (.iconst 0, 1) := by decide +kernel
theorem dL_phaseOf_19 : decode cL_phaseOf 19 = .ok (.goto 9, 3) := by decide +kernel
theorem dL_phaseOf_22 : decode cL_phaseOf 22 = .ok (.aload_n 0, 1) := by decide +kernel
theorem dL_phaseOf_23 : decode cL_phaseOf 23 = .ok (.bipush 10, 2) := by decide +kernel
theorem dL_phaseOf_25 : decode cL_phaseOf 25 = .ok (.iload_n 2, 1) := by decide +kernel
theorem dL_phaseOf_26 : decode cL_phaseOf 26 = .ok (.iadd, 1) := by decide +kernel
theorem dL_phaseOf_27 : decode cL_phaseOf 27 = .ok (.iaload, 1) := by decide +kernel
theorem dL_phaseOf_28 : decode cL_phaseOf 28 = .ok (.ireturn, 1) := by decide +kernel
set_option maxRecDepth 20000 in
theorem ggL_gap_L_phaseOf : GoodIn wsL_gap wsL_phaseOf := goodIn_r _ [4, 5, 6, 3, 7] (by decide +kernel) (by decide +kernel)
set_option maxRecDepth 20000 in
theorem gL_gap_L_phaseOf : GoodIn wsL_gap (va_wsS RL 183 yL_phaseOf wsL_phaseOf) := goodIn_app (goodIn_of _ (by decide +kernel)) ggL_gap_L_phaseOf
set_option maxRecDepth 20000 in
theorem ggL_gap_L_island : GoodIn wsL_gap wsL_island := goodIn_r _ [7] (by decide +kernel) (by decide +kernel)
set_option maxRecDepth 20000 in
theorem gL_gap_L_island : GoodIn wsL_gap (va_wsS RL 181 yL_island wsL_island) := goodIn_app (goodIn_of _ (by decide +kernel)) ggL_gap_L_island
theorem dL_gap_0 : decode cL_gap 0 = .ok (.aload_n 0, 1) := by decide +kernel
theorem dL_gap_1 : decode cL_gap 1 = .ok (.bipush 20, 2) := by decide +kernel
theorem dL_gap_3 : decode cL_gap 3 = .ok (.iconst 3, 1) := by decide +kernel
theorem dL_gap_4 : decode cL_gap 4 = .ok (.iload_n 1, 1) := by decide +kernel
theorem dL_gap_5 : decode cL_gap 5 = .ok (.imul, 1) := by decide +kernel
theorem dL_gap_6 : decode cL_gap 6 = .ok (.iadd, 1) := by decide +kernel
theorem dL_gap_7 : decode cL_gap 7 = .ok (.iaload, 1) := by decide +kernel
theorem dL_gap_8 : decode cL_gap 8 = .ok (.istore_n 2, 1) := by decide +kernel
theorem dL_gap_9 : decode cL_gap 9 = .ok (.aload_n 0, 1) := by decide +kernel
theorem dL_gap_10 : decode cL_gap 10 = .ok (.bipush 21, 2) := by decide +kernel
theorem dL_gap_12 : decode cL_gap 12 = .ok (.iconst 3, 1) := by decide +kernel
theorem dL_gap_13 : decode cL_gap 13 = .ok (.iload_n 1, 1) := by decide +kernel
theorem dL_gap_14 : decode cL_gap 14 = .ok (.imul, 1) := by decide +kernel
theorem dL_gap_15 : decode cL_gap 15 = .ok (.iadd, 1) := by decide +kernel
theorem dL_gap_16 : decode cL_gap 16 = .ok (.iaload, 1) := by decide +kernel
theorem dL_gap_17 : decode cL_gap 17 = .ok (.istore_n 3, 1) := by decide +kernel
theorem dL_gap_18 : decode cL_gap 18 = .ok (.aload_n 0, 1) := by decide +kernel
theorem dL_gap_19 : decode cL_gap 19 = .ok (.iload_n 2, 1) := by decide +kernel
theorem dL_gap_20 : decode cL_gap 20 = .ok (.invokestatic 183, 3) := by decide +kernel
theorem dL_gap_23 : decode cL_gap 23 = .ok (.aload_n 0, 1) := by decide +kernel
theorem dL_gap_24 : decode cL_gap 24 = .ok (.iload_n 3, 1) := by decide +kernel
theorem dL_gap_25 : decode cL_gap 25 = .ok (.invokestatic 183, 3) := by decide +kernel
theorem dL_gap_28 : decode cL_gap 28 = .ok (.isub, 1) := by decide +kernel
theorem dL_gap_29 : decode cL_gap 29 = .ok (.sipush 360, 3) := by decide +kernel
theorem dL_gap_32 : decode cL_gap 32 = .ok (.iadd, 1) := by decide +kernel
theorem dL_gap_33 : decode cL_gap 33 = .ok (.sipush 360, 3) := by decide +kernel
theorem dL_gap_36 : decode cL_gap 36 = .ok (.irem, 1) := by decide +kernel
theorem dL_gap_37 : decode cL_gap 37 = .ok (.istore 4, 2) := by decide +kernel
theorem dL_gap_39 : decode cL_gap 39 = .ok (.aload_n 0, 1) := by decide +kernel
theorem dL_gap_40 : decode cL_gap 40 = .ok (.iload_n 2, 1) := by decide +kernel
theorem dL_gap_41 : decode cL_gap 41 = .ok (.invokestatic 181, 3) := by decide +kernel
theorem dL_gap_44 : decode cL_gap 44 = .ok (.aload_n 0, 1) := by decide +kernel
theorem dL_gap_45 : decode cL_gap 45 = .ok (.iload_n 3, 1) := by decide +kernel
theorem dL_gap_46 : decode cL_gap 46 = .ok (.invokestatic 181, 3) := by decide +kernel
theorem dL_gap_49 : decode cL_gap 49 = .ok (.if_icmp .ne 7, 3) := by decide +kernel
theorem dL_gap_52 : decode cL_gap 52 = .ok (.iconst 0, 1) := by decide +kernel
theorem dL_gap_53 : decode cL_gap 53 = .ok (.goto 22, 3) := by decide +kernel
theorem dL_gap_56 : decode cL_gap 56 = .ok (.iload 4, 2) := by decide +kernel
theorem dL_gap_58 : decode cL_gap 58 = .ok (.sipush 180, 3) := by decide +kernel
theorem dL_gap_61 : decode cL_gap 61 = .ok (.if_icmp .le 12, 3) := by decide +kernel
theorem dL_gap_64 : decode cL_gap 64 = .ok (.sipush 360, 3) := by decide +kernel
theorem dL_gap_67 : decode cL_gap 67 = .ok (.iload 4, 2) := by decide +kernel
theorem dL_gap_69 : decode cL_gap 69 = .ok (.isub, 1) := by decide +kernel
theorem dL_gap_70 : decode cL_gap 70 = .ok (.goto 5, 3) := by decide +kernel
theorem dL_gap_73 : decode cL_gap 73 = .ok (.iload 4, 2) := by decide +kernel
theorem dL_gap_75 : decode cL_gap 75 = .ok (.ireturn, 1) := by decide +kernel
set_option maxRecDepth 20000 in
theorem ggL_isSwitched_L_close : GoodIn wsL_isSwitched wsL_close := goodIn_ca (goodIn_ca (goodIn_ca (goodIn_r _ [6, 7, 8, 9, 10, 1, 2, 11, 12, 13, 14, 15, 16, 17, 18, 19, 20, 21, 22, 23, 24, 25, 26, 27, 28, 29, 30, 31, 32, 33, 34, 35, 36, 37, 38, 39, 40, 41, 42, 43, 44, 45, 46, 47, 48, 49, 50, 51, 52, 53, 54, 55, 56, 57, 58, 59, 60, 61, 62, 63, 64, 65, 66, 67, 68, 69, 70, 71, 72, 73, 74, 75, 76, 77, 78, 79, 99, 100, 101, 102, 103, 104, 105, 106, 107, 108, 109, 110, 111, 112, 113, 114, 115, 116] (by decide +kernel) (by decide +kernel)) (goodIn_sub (fun _ h => List.mem_cons_of_mem _ (List.mem_append_left _ (List.mem_append_left _ (List.mem_append_right _ h)))) (by decide +kernel))) (goodIn_sub (fun _ h => List.mem_cons_of_mem _ (List.mem_append_left _ (List.mem_append_right _ h))) (by decide +kernel))) (goodIn_sub (fun _ h => List.mem_cons_of_mem _ (List.mem_append_right _ h)) (by decide +kernel))
set_option maxRecDepth 20000 in
theorem gL_isSwitched_L_close : GoodIn wsL_isSwitched (va_wsS RL 186 yL_close wsL_close) := goodIn_app (goodIn_of _ (by decide +kernel)) ggL_isSwitched_L_close
set_option maxRecDepth 20000 in
theorem ggL_isSwitched_L_open : GoodIn wsL_isSwitched wsL_open := goodIn_ca (goodIn_ca (goodIn_r _ [82, 7, 8, 10, 1, 83, 84, 85, 14, 86, 16, 17, 20, 21, 22, 23, 24, 25, 26, 27, 56, 57, 58, 31, 59, 60, 61, 62, 63, 64, 65, 33, 66, 67, 68, 69, 70, 71, 72, 73, 74, 75, 34, 35, 76, 77, 78, 79, 99, 100, 101, 102, 103, 104, 105, 106, 107, 108, 109, 110, 111, 112, 113, 114, 115, 116] (by decide +kernel) (by decide +kernel)) (goodIn_sub (fun _ h => List.mem_cons_of_mem _ (List.mem_append_left _ (List.mem_append_left _ (List.mem_append_right _ h)))) (by decide +kernel))) (goodIn_sub (fun _ h => List.mem_cons_of_mem _ (List.mem_append_right _ h)) (by decide +kernel))
set_option maxRecDepth 20000 in
theorem gL_isSwitched_L_open : GoodIn wsL_isSwitched (va_wsS RL 189 yL_open wsL_open) := goodIn_app (goodIn_of _ (by decide +kernel)) ggL_isSwitched_L_open
set_option maxRecDepth 20000 in
theorem ggL_isSwitched_L_islands : GoodIn wsL_isSwitched wsL_islands := goodIn_r _ [89, 90, 91, 5, 92] (by decide +kernel) (by decide +kernel)
set_option maxRecDepth 20000 in
theorem gL_isSwitched_L_islands : GoodIn wsL_isSwitched (va_wsS RL 191 yL_islands wsL_islands) := goodIn_app (goodIn_of _ (by decide +kernel)) ggL_isSwitched_L_islands
set_option maxRecDepth 20000 in
theorem ggL_isSwitched_L_gap : GoodIn wsL_isSwitched wsL_gap := goodIn_r _ [95, 96, 97, 5, 98, 90, 91, 92] (by decide +kernel) (by decide +kernel)
set_option maxRecDepth 20000 in
theorem gL_isSwitched_L_gap : GoodIn wsL_isSwitched (va_wsS RL 194 yL_gap wsL_gap) := goodIn_app (goodIn_of _ (by decide +kernel)) ggL_isSwitched_L_gap
theorem dL_isSwitched_0 : decode cL_isSwitched 0 = .ok (.aload_n 1, 1) := by decide +kernel
theorem dL_isSwitched_1 : decode cL_isSwitched 1 = .ok (.bipush 22, 2) := by decide +kernel
theorem dL_isSwitched_3 : decode cL_isSwitched 3 = .ok (.iconst 3, 1) := by decide +kernel
theorem dL_isSwitched_4 : decode cL_isSwitched 4 = .ok (.iload_n 2, 1) := by decide +kernel
theorem dL_isSwitched_5 : decode cL_isSwitched 5 = .ok (.imul, 1) := by decide +kernel
theorem dL_isSwitched_6 : decode cL_isSwitched 6 = .ok (.iadd, 1) := by decide +kernel
theorem dL_isSwitched_7 : decode cL_isSwitched 7 = .ok (.iaload, 1) := by decide +kernel
theorem dL_isSwitched_8 : decode cL_isSwitched 8 = .ok (.iconst 1, 1) := by decide +kernel
theorem dL_isSwitched_9 : decode cL_isSwitched 9 = .ok (.if_icmp .ne 40, 3) := by decide +kernel
theorem dL_isSwitched_12 : decode cL_isSwitched 12 = .ok (.aload_n 1, 1) := by decide +kernel
theorem dL_isSwitched_13 : decode cL_isSwitched 13 = .ok (.bipush 22, 2) := by decide +kernel
theorem dL_isSwitched_15 : decode cL_isSwitched 15 = .ok (.iconst 3, 1) := by decide +kernel
theorem dL_isSwitched_16 : decode cL_isSwitched 16 = .ok (.iload_n 2, 1) := by decide +kernel
theorem dL_isSwitched_17 : decode cL_isSwitched 17 = .ok (.imul, 1) := by decide +kernel
theorem dL_isSwitched_18 : decode cL_isSwitched 18 = .ok (.iadd, 1) := by decide +kernel
theorem dL_isSwitched_19 : decode cL_isSwitched 19 = .ok (.iconst 0, 1) := by decide +kernel
theorem dL_isSwitched_20 : decode cL_isSwitched 20 = .ok (.iastore, 1) := by decide +kernel
theorem dL_isSwitched_21 : decode cL_isSwitched 21 = .ok (.aload_n 0, 1) := by decide +kernel
theorem dL_isSwitched_22 : decode cL_isSwitched 22 = .ok (.iload_n 2, 1) := by decide +kernel
theorem dL_isSwitched_23 : decode cL_isSwitched 23 = .ok (.invokestatic 186, 3) := by decide +kernel
theorem dL_isSwitched_26 : decode cL_isSwitched 26 = .ok (.ldc 26, 2) := by decide +kernel
theorem dL_isSwitched_28 : decode cL_isSwitched 28 = .ok (.if_icmp .ne 19, 3) := by decide +kernel
theorem dL_isSwitched_31 : decode cL_isSwitched 31 = .ok (.aload_n 0, 1) := by decide +kernel
theorem dL_isSwitched_32 : decode cL_isSwitched 32 = .ok (.iload_n 2, 1) := by decide +kernel
theorem dL_isSwitched_33 : decode cL_isSwitched 33 = .ok (.invokestatic 189, 3) := by decide +kernel
theorem dL_isSwitched_36 : decode cL_isSwitched 36 = .ok (.aload_n 1, 1) := by decide +kernel
theorem dL_isSwitched_37 : decode cL_isSwitched 37 = .ok (.invokestatic 191, 3) := by decide +kernel
theorem dL_isSwitched_40 : decode cL_isSwitched 40 = .ok (.if_icmp .ne 7, 3) := by decide +kernel
theorem dL_isSwitched_43 : decode cL_isSwitched 43 = .ok (.iconst 1, 1) := by decide +kernel
theorem dL_isSwitched_44 : decode cL_isSwitched 44 = .ok (.goto 4, 3) := by decide +kernel
theorem dL_isSwitched_47 : decode cL_isSwitched 47 = .ok (.iconst 0, 1) := by decide +kernel
theorem dL_isSwitched_48 : decode cL_isSwitched 48 = .ok (.ireturn, 1) := by decide +kernel
theorem dL_isSwitched_49 : decode cL_isSwitched 49 = .ok (.aload_n 1, 1) := by decide +kernel
theorem dL_isSwitched_50 : decode cL_isSwitched 50 = .ok (.iload_n 2, 1) := by decide +kernel
theorem dL_isSwitched_51 : decode cL_isSwitched 51 = .ok (.invokestatic 194, 3) := by decide +kernel
theorem dL_isSwitched_54 : decode cL_isSwitched 54 = .ok (.bipush 10, 2) := by decide +kernel
theorem dL_isSwitched_56 : decode cL_isSwitched 56 = .ok (.if_icmp .le 29, 3) := by decide +kernel
theorem dL_isSwitched_59 : decode cL_isSwitched 59 = .ok (.aload_n 0, 1) := by decide +kernel
theorem dL_isSwitched_60 : decode cL_isSwitched 60 = .ok (.iload_n 2, 1) := by decide +kernel
theorem dL_isSwitched_61 : decode cL_isSwitched 61 = .ok (.invokestatic 189, 3) := by decide +kernel
theorem dL_isSwitched_64 : decode cL_isSwitched 64 = .ok (.ldc 26, 2) := by decide +kernel
theorem dL_isSwitched_66 : decode cL_isSwitched 66 = .ok (.if_icmp .ne 17, 3) := by decide +kernel
theorem dL_isSwitched_69 : decode cL_isSwitched 69 = .ok (.aload_n 0, 1) := by decide +kernel
theorem dL_isSwitched_70 : decode cL_isSwitched 70 = .ok (.iload_n 2, 1) := by decide +kernel
theorem dL_isSwitched_71 : decode cL_isSwitched 71 = .ok (.invokestatic 186, 3) := by decide +kernel
theorem dL_isSwitched_74 : decode cL_isSwitched 74 = .ok (.ldc 30, 2) := by decide +kernel
theorem dL_isSwitched_76 : decode cL_isSwitched 76 = .ok (.if_icmp .ne 7, 3) := by decide +kernel
theorem dL_isSwitched_79 : decode cL_isSwitched 79 = .ok (.iconst 1, 1) := by decide +kernel
theorem dL_isSwitched_80 : decode cL_isSwitched 80 = .ok (.goto 4, 3) := by decide +kernel
theorem dL_isSwitched_83 : decode cL_isSwitched 83 = .ok (.iconst 0, 1) := by decide +kernel
theorem dL_isSwitched_84 : decode cL_isSwitched 84 = .ok (.ireturn, 1) := by decide +kernel
theorem dL_isSwitched_85 : decode cL_isSwitched 85 = .ok (.aload_n 1, 1) := by decide +kernel
theorem dL_isSwitched_86 : decode cL_isSwitched 86 = .ok (.bipush 22, 2) := by decide +kernel
theorem dL_isSwitched_88 : decode cL_isSwitched 88 = .ok (.iconst 3, 1) := by decide +kernel
theorem dL_isSwitched_89 : decode cL_isSwitched 89 = .ok (.iload_n 2, 1) := by decide +kernel
theorem dL_isSwitched_90 : decode cL_isSwitched 90 = .ok (.imul, 1) := by decide +kernel
theorem dL_isSwitched_91 : decode cL_isSwitched 91 = .ok (.iadd, 1) := by decide +kernel
theorem dL_isSwitched_92 : decode cL_isSwitched 92 = .ok (.iconst 1, 1) := by decide +kernel
theorem dL_isSwitched_93 : decode cL_isSwitched 93 = .ok (.iastore, 1) := by decide +kernel
theorem dL_isSwitched_94 : decode cL_isSwitched 94 = .ok (.aload_n 0, 1) := by decide +kernel
theorem dL_isSwitched_95 : decode cL_isSwitched 95 = .ok (.iload_n 2, 1) := by decide +kernel
theorem dL_isSwitched_96 : decode cL_isSwitched 96 = .ok (.invokestatic 186, 3) := by decide +kernel
theorem dL_isSwitched_99 : decode cL_isSwitched 99 = .ok (.aload_n 1, 1) := by decide +kernel
theorem dL_isSwitched_100 : decode cL_isSwitched 100 = .ok (.invokestatic 191, 3) := by decide +kernel
theorem dL_isSwitched_103 : decode cL_isSwitched 103 = .ok (.if_icmp .ne 7, 3) := by decide +kernel
theorem dL_isSwitched_106 : decode cL_isSwitched 106 = .ok (.iconst 1, 1) := by decide +kernel
theorem dL_isSwitched_107 : decode cL_isSwitched 107 = .ok (.goto 4, 3) := by decide +kernel
theorem dL_isSwitched_110 : decode cL_isSwitched 110 = .ok (.iconst 0, 1) := by decide +kernel
theorem dL_isSwitched_111 : decode cL_isSwitched 111 = .ok (.ireturn, 1) := by decide +kernel
set_option maxRecDepth 20000 in
theorem ggL_size_L_island : GoodIn wsL_size wsL_island := goodIn_r _ [4] (by decide +kernel) (by decide +kernel)
set_option maxRecDepth 20000 in
theorem gL_size_L_island : GoodIn wsL_size (va_wsS RL 181 yL_island wsL_island) := goodIn_app (goodIn_of _ (by decide +kernel)) ggL_size_L_island
theorem dL_size_0 : decode cL_size 0 = .ok (.iconst 0, 1) := by decide +kernel
theorem dL_size_1 : decode cL_size 1 = .ok (.istore_n 1, 1) := by decide +kernel
theorem dL_size_2 : decode cL_size 2 = .ok (.iconst 0, 1) := by decide +kernel
theorem dL_size_3 : decode cL_size 3 = .ok (.istore_n 2, 1) := by decide +kernel
theorem dL_size_4 : decode cL_size 4 = .ok (.iload_n 2, 1) := by decide +kernel
theorem dL_size_5 : decode cL_size 5 = .ok (.aload_n 0, 1) := by decide +kernel
theorem dL_size_6 : decode cL_size 6 = .ok (.iconst 0, 1) := by decide +kernel
theorem dL_size_7 : decode cL_size 7 = .ok (.iaload, 1) := by decide +kernel
theorem dL_size_8 : decode cL_size 8 = .ok (.if_icmp .ge 25, 3) := by decide +kernel
theorem dL_size_11 : decode cL_size 11 = .ok (.iload_n 1, 1) := by decide +kernel
theorem dL_size_12 : decode cL_size 12 = .ok (.aload_n 0, 1) := by decide +kernel
theorem dL_size_13 : decode cL_size 13 = .ok (.iload_n 2, 1) := by decide +kernel
theorem dL_size_14 : decode cL_size 14 = .ok (.invokestatic 181, 3) := by decide +kernel
theorem dL_size_17 : decode cL_size 17 = .ok (.ifCond .ne 7, 3) := by decide +kernel
theorem dL_size_20 : decode cL_size 20 = .ok (.iconst 1, 1) := by decide +kernel
theorem dL_size_21 : decode cL_size 21 = .ok (.goto 4, 3) := by decide +kernel
theorem dL_size_24 : decode cL_size 24 = .ok (.iconst 0, 1) := by decide +kernel
theorem dL_size_25 : decode cL_size 25 = .ok (.iadd, 1) := by decide +kernel
theorem dL_size_26 : decode cL_size 26 = .ok (.istore_n 1, 1) := by decide +kernel
theorem dL_size_27 : decode cL_size 27 = .ok (.iinc 2 1, 3) := by decide +kernel
theorem dL_size_30 : decode cL_size 30 = .ok (.goto (-26), 3) := by decide +kernel
theorem dL_size_33 : decode cL_size 33 = .ok (.iload_n 1, 1) := by decide +kernel
theorem dL_size_34 : decode cL_size 34 = .ok (.ireturn, 1) := by decide +kernel
set_option maxRecDepth 20000 in
theorem ggL_isTied_L_tie : GoodIn wsL_isTied wsL_tie := goodIn_ca (goodIn_ca (goodIn_ca (goodIn_r _ [7, 8, 9, 10, 2, 1, 3, 11, 12, 13, 14, 15, 16, 17, 18, 19, 20, 21, 22, 23, 24, 25, 26, 27, 28, 29, 30, 31, 32, 33, 34, 35, 36, 37, 38, 39, 40, 41, 42, 43, 44, 45, 46, 47, 48, 49, 50, 51, 65, 66, 67, 68, 69, 70, 71, 72, 73, 74, 75, 76, 77, 78, 79, 80, 81, 82] (by decide +kernel) (by decide +kernel)) (goodIn_sub (fun _ h => List.mem_cons_of_mem _ (List.mem_append_left _ (List.mem_append_left _ (List.mem_append_right _ h)))) (by decide +kernel))) (goodIn_sub (fun _ h => List.mem_cons_of_mem _ (List.mem_append_left _ (List.mem_append_right _ h))) (by decide +kernel))) (goodIn_sub (fun _ h => List.mem_cons_of_mem _ (List.mem_append_right _ h)) (by decide +kernel))
set_option maxRecDepth 20000 in
theorem gL_isTied_L_tie : GoodIn wsL_isTied (va_wsS RL 154 yL_tie wsL_tie) := goodIn_app (goodIn_of _ (by decide +kernel)) ggL_isTied_L_tie
set_option maxRecDepth 20000 in
theorem ggL_isTied_L_untie : GoodIn wsL_isTied wsL_untie := goodIn_ca (goodIn_r _ [54, 9, 2, 55, 56, 57, 14, 58, 18, 19, 22, 24, 46, 47, 48, 28, 49, 50, 51, 65, 66, 67, 68, 69, 70, 71, 72, 73, 74, 75, 76, 77, 78, 79, 80, 81, 82] (by decide +kernel) (by decide +kernel)) (goodIn_sub (fun _ h => List.mem_cons_of_mem _ (List.mem_append_left _ (List.mem_append_right _ h))) (by decide +kernel))
set_option maxRecDepth 20000 in
theorem gL_isTied_L_untie : GoodIn wsL_isTied (va_wsS RL 157 yL_untie wsL_untie) := goodIn_app (goodIn_of _ (by decide +kernel)) ggL_isTied_L_untie
set_option maxRecDepth 20000 in
theorem ggL_isTied_L_size : GoodIn wsL_isTied wsL_size := goodIn_r _ [61, 62, 63, 6, 64] (by decide +kernel) (by decide +kernel)
set_option maxRecDepth 20000 in
theorem gL_isTied_L_size : GoodIn wsL_isTied (va_wsS RL 196 yL_size wsL_size) := goodIn_app (goodIn_of _ (by decide +kernel)) ggL_isTied_L_size
theorem dL_isTied_0 : decode cL_isTied 0 = .ok (.aload_n 1, 1) := by decide +kernel
theorem dL_isTied_1 : decode cL_isTied 1 = .ok (.bipush 8, 2) := by decide +kernel
theorem dL_isTied_3 : decode cL_isTied 3 = .ok (.iaload, 1) := by decide +kernel
theorem dL_isTied_4 : decode cL_isTied 4 = .ok (.iconst 1, 1) := by decide +kernel
theorem dL_isTied_5 : decode cL_isTied 5 = .ok (.if_icmp .ne 34, 3) := by decide +kernel
theorem dL_isTied_8 : decode cL_isTied 8 = .ok (.aload_n 1, 1) := by decide +kernel
theorem dL_isTied_9 : decode cL_isTied 9 = .ok (.bipush 8, 2) := by decide +kernel
theorem dL_isTied_11 : decode cL_isTied 11 = .ok (.iconst 0, 1) := by decide +kernel
theorem dL_isTied_12 : decode cL_isTied 12 = .ok (.iastore, 1) := by decide +kernel
theorem dL_isTied_13 : decode cL_isTied 13 = .ok (.aload_n 0, 1) := by decide +kernel
theorem dL_isTied_14 : decode cL_isTied 14 = .ok (.invokestatic 154, 3) := by decide +kernel
theorem dL_isTied_17 : decode cL_isTied 17 = .ok (.ldc 26, 2) := by decide +kernel
theorem dL_isTied_19 : decode cL_isTied 19 = .ok (.if_icmp .ne 18, 3) := by decide +kernel
theorem dL_isTied_22 : decode cL_isTied 22 = .ok (.aload_n 0, 1) := by decide +kernel
theorem dL_isTied_23 : decode cL_isTied 23 = .ok (.invokestatic 157, 3) := by decide +kernel
theorem dL_isTied_26 : decode cL_isTied 26 = .ok (.aload_n 1, 1) := by decide +kernel
theorem dL_isTied_27 : decode cL_isTied 27 = .ok (.invokestatic 196, 3) := by decide +kernel
theorem dL_isTied_30 : decode cL_isTied 30 = .ok (.if_icmp .ne 7, 3) := by decide +kernel
theorem dL_isTied_33 : decode cL_isTied 33 = .ok (.iconst 1, 1) := by decide +kernel
theorem dL_isTied_34 : decode cL_isTied 34 = .ok (.goto 4, 3) := by decide +kernel
theorem dL_isTied_37 : decode cL_isTied 37 = .ok (.iconst 0, 1) := by decide +kernel
theorem dL_isTied_38 : decode cL_isTied 38 = .ok (.ireturn, 1) := by decide +kernel
theorem dL_isTied_39 : decode cL_isTied 39 = .ok (.aload_n 1, 1) := by decide +kernel
theorem dL_isTied_40 : decode cL_isTied 40 = .ok (.bipush 10, 2) := by decide +kernel
theorem dL_isTied_42 : decode cL_isTied 42 = .ok (.iaload, 1) := by decide +kernel
theorem dL_isTied_43 : decode cL_isTied 43 = .ok (.bipush 10, 2) := by decide +kernel
theorem dL_isTied_45 : decode cL_isTied 45 = .ok (.if_icmp .le 37, 3) := by decide +kernel
theorem dL_isTied_48 : decode cL_isTied 48 = .ok (.aload_n 1, 1) := by decide +kernel
theorem dL_isTied_49 : decode cL_isTied 49 = .ok (.bipush 10, 2) := by decide +kernel
theorem dL_isTied_51 : decode cL_isTied 51 = .ok (.iaload, 1) := by decide +kernel
theorem dL_isTied_52 : decode cL_isTied 52 = .ok (.sipush 350, 3) := by decide +kernel
theorem dL_isTied_55 : decode cL_isTied 55 = .ok (.if_icmp .ge 27, 3) := by decide +kernel
theorem dL_isTied_58 : decode cL_isTied 58 = .ok (.aload_n 0, 1) := by decide +kernel
theorem dL_isTied_59 : decode cL_isTied 59 = .ok (.invokestatic 157, 3) := by decide +kernel
theorem dL_isTied_62 : decode cL_isTied 62 = .ok (.ldc 17, 2) := by decide +kernel
theorem dL_isTied_64 : decode cL_isTied 64 = .ok (.if_icmp .ne 16, 3) := by decide +kernel
theorem dL_isTied_67 : decode cL_isTied 67 = .ok (.aload_n 0, 1) := by decide +kernel
theorem dL_isTied_68 : decode cL_isTied 68 = .ok (.invokestatic 154, 3) := by decide +kernel
theorem dL_isTied_71 : decode cL_isTied 71 = .ok (.ldc 30, 2) := by decide +kernel
theorem dL_isTied_73 : decode cL_isTied 73 = .ok (.if_icmp .ne 7, 3) := by decide +kernel
theorem dL_isTied_76 : decode cL_isTied 76 = .ok (.iconst 1, 1) := by decide +kernel
theorem dL_isTied_77 : decode cL_isTied 77 = .ok (.goto 4, 3) := by decide +kernel
theorem dL_isTied_80 : decode cL_isTied 80 = .ok (.iconst 0, 1) := by decide +kernel
theorem dL_isTied_81 : decode cL_isTied 81 = .ok (.ireturn, 1) := by decide +kernel
theorem dL_isTied_82 : decode cL_isTied 82 = .ok (.aload_n 1, 1) := by decide +kernel
theorem dL_isTied_83 : decode cL_isTied 83 = .ok (.bipush 8, 2) := by decide +kernel
theorem dL_isTied_85 : decode cL_isTied 85 = .ok (.iconst 1, 1) := by decide +kernel
theorem dL_isTied_86 : decode cL_isTied 86 = .ok (.iastore, 1) := by decide +kernel
theorem dL_isTied_87 : decode cL_isTied 87 = .ok (.aload_n 0, 1) := by decide +kernel
theorem dL_isTied_88 : decode cL_isTied 88 = .ok (.invokestatic 154, 3) := by decide +kernel
theorem dL_isTied_91 : decode cL_isTied 91 = .ok (.aload_n 1, 1) := by decide +kernel
