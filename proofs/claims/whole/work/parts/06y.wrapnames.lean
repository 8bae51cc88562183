set_option maxRecDepth 20000 in
theorem ggL_shore_X9_shore : GoodIn wsL_shore wsX9_shore := goodIn_ca (goodIn_r _ [6, 7, 8, 9, 10, 11, 12, 13, 14, 15, 16, 17, 18, 19, 20, 21, 22, 23, 24, 25, 26, 27, 28, 29, 30, 31, 32, 33, 34, 35, 36, 37, 38, 39] (by decide +kernel) (by decide +kernel)) (goodIn_sub (fun _ h => List.mem_cons_of_mem _ (List.mem_append_right _ h)) (by decide +kernel))
set_option maxRecDepth 20000 in
theorem gL_shore_X9_shore : GoodIn wsL_shore (wsV RL 7 RX9 yX9_shore wsX9_shore) := goodIn_app (goodIn_of _ (by decide +kernel)) ggL_shore_X9_shore
theorem dL_shore_0 : decode cL_shore 0 = .ok (.aload_n 1, 1) := by decide +kernel
theorem dL_shore_1 : decode cL_shore 1 = .ok (.iconst 0, 1) := by decide +kernel
theorem dL_shore_2 : decode cL_shore 2 = .ok (.aload_n 0, 1) := by decide +kernel
theorem dL_shore_3 : decode cL_shore 3 = .ok (.invokevirtual 7, 3) := by decide +kernel
theorem dL_shore_6 : decode cL_shore 6 = .ok (.i2l, 1) := by decide +kernel
theorem dL_shore_7 : decode cL_shore 7 = .ok (.lastore, 1) := by decide +kernel
theorem dL_shore_8 : decode cL_shore 8 = .ok (.goto 6, 3) := by decide +kernel
theorem dL_shore_11 : decode cL_shore 11 = .ok (.astore_n 2, 1) := by decide +kernel
theorem dL_shore_12 : decode cL_shore 12 = .ok (.iconst 1, 1) := by decide +kernel
theorem dL_shore_13 : decode cL_shore 13 = .ok (.ireturn, 1) := by decide +kernel
theorem dL_shore_14 : decode cL_shore 14 = .ok (.iconst 0, 1) := by decide +kernel
theorem dL_shore_15 : decode cL_shore 15 = .ok (.ireturn, 1) := by decide +kernel
set_option maxRecDepth 20000 in
theorem ggL_rock_X9_rock : GoodIn wsL_rock wsX9_rock := goodIn_ca (goodIn_ca (goodIn_ca (goodIn_r _ [8, 9, 10, 11, 12, 13, 14, 15, 16, 17, 18, 7, 19, 20, 21, 22, 23, 24, 25, 26, 27, 28, 29, 30, 31, 32, 33, 34, 35, 36, 37, 38, 39, 40, 41, 42, 43, 44, 45, 46, 47, 48, 49, 50, 51, 52, 53, 54, 55, 56, 57, 58, 59, 60, 61, 62, 63, 64, 65, 66, 67, 68, 69, 70, 71, 72, 73] (by decide +kernel) (by decide +kernel)) (goodIn_sub (fun _ h => List.mem_cons_of_mem _ (List.mem_append_left _ (List.mem_append_left _ (List.mem_append_right _ h)))) (by decide +kernel))) (goodIn_sub (fun _ h => List.mem_cons_of_mem _ (List.mem_append_left _ (List.mem_append_right _ h))) (by decide +kernel))) (goodIn_sub (fun _ h => List.mem_cons_of_mem _ (List.mem_append_right _ h)) (by decide +kernel))
set_option maxRecDepth 20000 in
theorem gL_rock_X9_rock : GoodIn wsL_rock (wsV RL 15 RX9 yX9_rock wsX9_rock) := goodIn_app (goodIn_of _ (by decide +kernel)) ggL_rock_X9_rock
theorem dL_rock_0 : decode cL_rock 0 = .ok (.aload 4, 2) := by decide +kernel
theorem dL_rock_2 : decode cL_rock 2 = .ok (.iconst 0, 1) := by decide +kernel
theorem dL_rock_3 : decode cL_rock 3 = .ok (.aload_n 0, 1) := by decide +kernel
theorem dL_rock_4 : decode cL_rock 4 = .ok (.iload_n 1, 1) := by decide +kernel
theorem dL_rock_5 : decode cL_rock 5 = .ok (.iload_n 2, 1) := by decide +kernel
theorem dL_rock_6 : decode cL_rock 6 = .ok (.iload_n 3, 1) := by decide +kernel
theorem dL_rock_7 : decode cL_rock 7 = .ok (.invokevirtual 15, 3) := by decide +kernel
theorem dL_rock_10 : decode cL_rock 10 = .ok (.i2l, 1) := by decide +kernel
theorem dL_rock_11 : decode cL_rock 11 = .ok (.lastore, 1) := by decide +kernel
theorem dL_rock_12 : decode cL_rock 12 = .ok (.goto 15, 3) := by decide +kernel
theorem dL_rock_15 : decode cL_rock 15 = .ok (.astore 5, 2) := by decide +kernel
theorem dL_rock_17 : decode cL_rock 17 = .ok (.iconst 1, 1) := by decide +kernel
theorem dL_rock_18 : decode cL_rock 18 = .ok (.ireturn, 1) := by decide +kernel
theorem dL_rock_19 : decode cL_rock 19 = .ok (.astore 5, 2) := by decide +kernel
theorem dL_rock_21 : decode cL_rock 21 = .ok (.iconst 2, 1) := by decide +kernel
theorem dL_rock_22 : decode cL_rock 22 = .ok (.ireturn, 1) := by decide +kernel
theorem dL_rock_23 : decode cL_rock 23 = .ok (.astore 5, 2) := by decide +kernel
theorem dL_rock_25 : decode cL_rock 25 = .ok (.iconst 3, 1) := by decide +kernel
theorem dL_rock_26 : decode cL_rock 26 = .ok (.ireturn, 1) := by decide +kernel
theorem dL_rock_27 : decode cL_rock 27 = .ok (.iconst 0, 1) := by decide +kernel
theorem dL_rock_28 : decode cL_rock 28 = .ok (.ireturn, 1) := by decide +kernel
set_option maxRecDepth 20000 in
theorem ggL_hands_X9_hands : GoodIn wsL_hands wsX9_hands := goodIn_ca (goodIn_ca (goodIn_r _ [7, 8, 9, 10, 11, 12, 6, 13, 14, 15, 16, 17, 18, 19, 20, 21, 22, 23, 24, 25, 26, 27, 28, 29, 30, 31, 32, 33, 34, 35, 36, 37, 38, 39, 40, 41, 42, 43] (by decide +kernel) (by decide +kernel)) (goodIn_sub (fun _ h => List.mem_cons_of_mem _ (List.mem_append_left _ (List.mem_append_right _ h))) (by decide +kernel))) (goodIn_sub (fun _ h => List.mem_cons_of_mem _ (List.mem_append_right _ h)) (by decide +kernel))
set_option maxRecDepth 20000 in
theorem gL_hands_X9_hands : GoodIn wsL_hands (wsV RL 23 RX9 yX9_hands wsX9_hands) := goodIn_app (goodIn_of _ (by decide +kernel)) ggL_hands_X9_hands
theorem dL_hands_0 : decode cL_hands 0 = .ok (.aload_n 0, 1) := by decide +kernel
theorem dL_hands_1 : decode cL_hands 1 = .ok (.iload_n 1, 1) := by decide +kernel
theorem dL_hands_2 : decode cL_hands 2 = .ok (.iload_n 2, 1) := by decide +kernel
theorem dL_hands_3 : decode cL_hands 3 = .ok (.invokevirtual 23, 3) := by decide +kernel
theorem dL_hands_6 : decode cL_hands 6 = .ok (.goto 9, 3) := by decide +kernel
theorem dL_hands_9 : decode cL_hands 9 = .ok (.astore_n 3, 1) := by decide +kernel
theorem dL_hands_10 : decode cL_hands 10 = .ok (.iconst 1, 1) := by decide +kernel
theorem dL_hands_11 : decode cL_hands 11 = .ok (.ireturn, 1) := by decide +kernel
theorem dL_hands_12 : decode cL_hands 12 = .ok (.astore_n 3, 1) := by decide +kernel
theorem dL_hands_13 : decode cL_hands 13 = .ok (.iconst 2, 1) := by decide +kernel
theorem dL_hands_14 : decode cL_hands 14 = .ok (.ireturn, 1) := by decide +kernel
theorem dL_hands_15 : decode cL_hands 15 = .ok (.iconst 0, 1) := by decide +kernel
theorem dL_hands_16 : decode cL_hands 16 = .ok (.ireturn, 1) := by decide +kernel
set_option maxRecDepth 20000 in
theorem ggL_rights_X9_rights : GoodIn wsL_rights wsX9_rights := goodIn_ca (goodIn_r _ [6, 7, 8, 9, 10, 11, 12, 13, 14, 15, 16, 17, 18, 19, 20, 21, 22, 23, 24, 25, 26, 27, 28, 29, 30, 31, 32, 33, 34, 35, 36, 37, 38, 39, 40, 41, 42, 43, 44, 45, 46, 47, 48, 49, 50, 51, 52, 53, 54, 55, 56, 57, 58, 59, 60, 61, 62, 63, 64, 65, 66, 67, 68, 69, 70, 71, 72, 73, 74, 75, 76, 77, 78, 79, 80, 81, 82, 83, 84, 85, 86, 87, 88, 89, 90, 91, 92, 93, 94, 5, 95, 96, 97, 98, 99, 100, 101, 102, 103, 104, 105, 106, 107, 108, 109, 110, 111, 112, 113, 114, 115, 116, 117, 118, 119, 120, 121, 122, 123, 124, 125, 126, 127, 128, 129, 130, 131, 132, 133, 134, 135, 136, 137, 138, 139, 140, 141, 142] (by decide +kernel) (by decide +kernel)) (goodIn_sub (fun _ h => List.mem_cons_of_mem _ (List.mem_append_right _ h)) (by decide +kernel))
set_option maxRecDepth 20000 in
theorem gL_rights_X9_rights : GoodIn wsL_rights (wsV RL 27 RX9 yX9_rights wsX9_rights) := goodIn_app (goodIn_of _ (by decide +kernel)) ggL_rights_X9_rights
theorem dL_rights_0 : decode cL_rights 0 = .ok (.aload_n 1, 1) := by decide +kernel
theorem dL_rights_1 : decode cL_rights 1 = .ok (.iconst 0, 1) := by decide +kernel
theorem dL_rights_2 : decode cL_rights 2 = .ok (.aload_n 0, 1) := by decide +kernel
theorem dL_rights_3 : decode cL_rights 3 = .ok (.invokevirtual 27, 3) := by decide +kernel
theorem dL_rights_6 : decode cL_rights 6 = .ok (.i2l, 1) := by decide +kernel
theorem dL_rights_7 : decode cL_rights 7 = .ok (.lastore, 1) := by decide +kernel
theorem dL_rights_8 : decode cL_rights 8 = .ok (.goto 6, 3) := by decide +kernel
theorem dL_rights_11 : decode cL_rights 11 = .ok (.astore_n 2, 1) := by decide +kernel
theorem dL_rights_12 : decode cL_rights 12 = .ok (.iconst 1, 1) := by decide +kernel
theorem dL_rights_13 : decode cL_rights 13 = .ok (.ireturn, 1) := by decide +kernel
theorem dL_rights_14 : decode cL_rights 14 = .ok (.iconst 0, 1) := by decide +kernel
theorem dL_rights_15 : decode cL_rights 15 = .ok (.ireturn, 1) := by decide +kernel
set_option maxRecDepth 20000 in
theorem ggL_may_X9_may : GoodIn wsL_may wsX9_may := goodIn_ca (goodIn_r _ [6, 7, 8, 9, 10, 5, 11, 12, 13, 14, 15, 16, 17, 18, 19, 20, 21, 22, 23, 24, 25, 26, 27, 28, 29, 30, 31, 32, 33, 34, 35, 36, 37, 38, 39, 40, 41, 42, 43, 44, 45, 46, 47, 48, 49, 50, 51, 52, 53, 54] (by decide +kernel) (by decide +kernel)) (goodIn_sub (fun _ h => List.mem_cons_of_mem _ (List.mem_append_right _ h)) (by decide +kernel))
set_option maxRecDepth 20000 in
theorem gL_may_X9_may : GoodIn wsL_may (wsV RL 30 RX9 yX9_may wsX9_may) := goodIn_app (goodIn_of _ (by decide +kernel)) ggL_may_X9_may
theorem dL_may_0 : decode cL_may 0 = .ok (.aload 4, 2) := by decide +kernel
theorem dL_may_2 : decode cL_may 2 = .ok (.iconst 0, 1) := by decide +kernel
theorem dL_may_3 : decode cL_may 3 = .ok (.aload_n 0, 1) := by decide +kernel
theorem dL_may_4 : decode cL_may 4 = .ok (.iload_n 1, 1) := by decide +kernel
theorem dL_may_5 : decode cL_may 5 = .ok (.iload_n 2, 1) := by decide +kernel
theorem dL_may_6 : decode cL_may 6 = .ok (.iload_n 3, 1) := by decide +kernel
theorem dL_may_7 : decode cL_may 7 = .ok (.invokevirtual 30, 3) := by decide +kernel
theorem dL_may_10 : decode cL_may 10 = .ok (.ifCond .eq 7, 3) := by decide +kernel
theorem dL_may_13 : decode cL_may 13 = .ok (.lconst 1, 1) := by decide +kernel
theorem dL_may_14 : decode cL_may 14 = .ok (.goto 4, 3) := by decide +kernel
theorem dL_may_17 : decode cL_may 17 = .ok (.lconst 0, 1) := by decide +kernel
theorem dL_may_18 : decode cL_may 18 = .ok (.lastore, 1) := by decide +kernel
theorem dL_may_19 : decode cL_may 19 = .ok (.goto 7, 3) := by decide +kernel
theorem dL_may_22 : decode cL_may 22 = .ok (.astore 5, 2) := by decide +kernel
theorem dL_may_24 : decode cL_may 24 = .ok (.iconst 1, 1) := by decide +kernel
theorem dL_may_25 : decode cL_may 25 = .ok (.ireturn, 1) := by decide +kernel
theorem dL_may_26 : decode cL_may 26 = .ok (.iconst 0, 1) := by decide +kernel
theorem dL_may_27 : decode cL_may 27 = .ok (.ireturn, 1) := by decide +kernel
set_option maxRecDepth 20000 in
theorem ggL_day_X9_day : GoodIn wsL_day wsX9_day := goodIn_ca (goodIn_ca (goodIn_r _ [7, 8, 9, 10, 11, 12, 13, 14, 15, 16, 6, 17, 18, 19, 20, 21, 22, 23, 24, 25, 26, 27, 28, 29, 30, 31, 32, 33, 34, 35, 36, 37, 38, 39, 40, 41, 42, 43, 44, 45, 46, 47, 48, 49, 50, 51, 52, 53, 54, 55, 56, 57, 58, 59, 60, 61, 62, 63, 64, 65, 66, 67, 68, 69, 70, 71, 72, 73, 74, 75, 76, 77, 78, 79, 80, 81, 82, 83, 84, 85, 86, 87, 88, 89, 90, 91, 92, 93, 94, 95, 96, 97, 98, 99, 100, 101, 102, 103, 104, 105, 106, 107, 108, 109, 110, 111, 112, 113, 114] (by decide +kernel) (by decide +kernel)) (goodIn_sub (fun _ h => List.mem_cons_of_mem _ (List.mem_append_left _ (List.mem_append_right _ h))) (by decide +kernel))) (goodIn_sub (fun _ h => List.mem_cons_of_mem _ (List.mem_append_right _ h)) (by decide +kernel))
set_option maxRecDepth 20000 in
theorem gL_day_X9_day : GoodIn wsL_day (wsV RL 34 RX9 yX9_day wsX9_day) := goodIn_app (goodIn_of _ (by decide +kernel)) ggL_day_X9_day
theorem dL_day_0 : decode cL_day 0 = .ok (.aload 5, 2) := by decide +kernel
theorem dL_day_2 : decode cL_day 2 = .ok (.iconst 0, 1) := by decide +kernel
theorem dL_day_3 : decode cL_day 3 = .ok (.aload_n 0, 1) := by decide +kernel
theorem dL_day_4 : decode cL_day 4 = .ok (.iload_n 1, 1) := by decide +kernel
theorem dL_day_5 : decode cL_day 5 = .ok (.iload_n 2, 1) := by decide +kernel
theorem dL_day_6 : decode cL_day 6 = .ok (.iload_n 3, 1) := by decide +kernel
theorem dL_day_7 : decode cL_day 7 = .ok (.iload 4, 2) := by decide +kernel
theorem dL_day_9 : decode cL_day 9 = .ok (.invokevirtual 34, 3) := by decide +kernel
theorem dL_day_12 : decode cL_day 12 = .ok (.i2l, 1) := by decide +kernel
theorem dL_day_13 : decode cL_day 13 = .ok (.lastore, 1) := by decide +kernel
theorem dL_day_14 : decode cL_day 14 = .ok (.goto 11, 3) := by decide +kernel
theorem dL_day_17 : decode cL_day 17 = .ok (.astore 6, 2) := by decide +kernel
theorem dL_day_19 : decode cL_day 19 = .ok (.iconst 1, 1) := by decide +kernel
theorem dL_day_20 : decode cL_day 20 = .ok (.ireturn, 1) := by decide +kernel
theorem dL_day_21 : decode cL_day 21 = .ok (.astore 6, 2) := by decide +kernel
theorem dL_day_23 : decode cL_day 23 = .ok (.iconst 2, 1) := by decide +kernel
theorem dL_day_24 : decode cL_day 24 = .ok (.ireturn, 1) := by decide +kernel
theorem dL_day_25 : decode cL_day 25 = .ok (.iconst 0, 1) := by decide +kernel
theorem dL_day_26 : decode cL_day 26 = .ok (.ireturn, 1) := by decide +kernel
set_option maxRecDepth 20000 in
theorem ggL_cut_X9_cut : GoodIn wsL_cut wsX9_cut := goodIn_ca (goodIn_ca (goodIn_r _ [7, 8, 9, 10, 11, 12, 13, 6, 14, 15, 16, 17, 18, 19, 20, 21, 22, 23, 24, 25, 26, 27, 28, 29, 30, 31, 32, 33, 34, 35, 36, 37, 38, 39, 40, 41, 42, 43, 44, 45, 46, 47, 48, 49, 50, 51, 52, 53, 54, 55, 56, 57, 58, 59, 60, 61, 62, 63, 64, 65, 66, 67, 68, 69, 70, 71, 72, 73, 74, 75, 76, 77, 78, 79, 80, 81, 82, 83, 84, 85, 86, 87, 88, 89, 90, 91, 92, 93, 94, 95, 96, 97, 98, 99, 100, 101, 102, 103, 104, 105, 106, 107, 108, 109, 110, 111, 112, 113, 114, 115, 116, 117, 118, 119, 120, 121, 122, 123, 124, 125, 126, 127, 128, 129, 130, 131] (by decide +kernel) (by decide +kernel)) (goodIn_sub (fun _ h => List.mem_cons_of_mem _ (List.mem_append_left _ (List.mem_append_right _ h))) (by decide +kernel))) (goodIn_sub (fun _ h => List.mem_cons_of_mem _ (List.mem_append_right _ h)) (by decide +kernel))
set_option maxRecDepth 20000 in
theorem gL_cut_X9_cut : GoodIn wsL_cut (wsV RL 38 RX9 yX9_cut wsX9_cut) := goodIn_app (goodIn_of _ (by decide +kernel)) ggL_cut_X9_cut
theorem dL_cut_0 : decode cL_cut 0 = .ok (.aload 5, 2) := by decide +kernel
theorem dL_cut_2 : decode cL_cut 2 = .ok (.iconst 0, 1) := by decide +kernel
theorem dL_cut_3 : decode cL_cut 3 = .ok (.aload_n 0, 1) := by decide +kernel
theorem dL_cut_4 : decode cL_cut 4 = .ok (.iload_n 1, 1) := by decide +kernel
theorem dL_cut_5 : decode cL_cut 5 = .ok (.iload_n 2, 1) := by decide +kernel
theorem dL_cut_6 : decode cL_cut 6 = .ok (.iload_n 3, 1) := by decide +kernel
theorem dL_cut_7 : decode cL_cut 7 = .ok (.iload 4, 2) := by decide +kernel
theorem dL_cut_9 : decode cL_cut 9 = .ok (.invokevirtual 38, 3) := by decide +kernel
theorem dL_cut_12 : decode cL_cut 12 = .ok (.i2l, 1) := by decide +kernel
theorem dL_cut_13 : decode cL_cut 13 = .ok (.lastore, 1) := by decide +kernel
theorem dL_cut_14 : decode cL_cut 14 = .ok (.goto 11, 3) := by decide +kernel
theorem dL_cut_17 : decode cL_cut 17 = .ok (.astore 6, 2) := by decide +kernel
theorem dL_cut_19 : decode cL_cut 19 = .ok (.iconst 1, 1) := by decide +kernel
theorem dL_cut_20 : decode cL_cut 20 = .ok (.ireturn, 1) := by decide +kernel
theorem dL_cut_21 : decode cL_cut 21 = .ok (.astore 6, 2) := by decide +kernel
theorem dL_cut_23 : decode cL_cut 23 = .ok (.iconst 2, 1) := by decide +kernel
theorem dL_cut_24 : decode cL_cut 24 = .ok (.ireturn, 1) := by decide +kernel
theorem dL_cut_25 : decode cL_cut 25 = .ok (.iconst 0, 1) := by decide +kernel
theorem dL_cut_26 : decode cL_cut 26 = .ok (.ireturn, 1) := by decide +kernel
set_option maxRecDepth 20000 in
theorem ggL_gather_X9_gather : GoodIn wsL_gather wsX9_gather := goodIn_ca (goodIn_ca (goodIn_r _ [7, 8, 9, 10, 11, 12, 6, 13, 14, 15, 16, 17, 18, 19, 20, 21, 22, 23, 24, 25, 26, 27, 28, 29, 30, 31, 32, 33, 34, 35, 36, 37, 38, 39, 40, 41, 42, 43, 44, 45, 46, 47, 48, 49, 50, 51, 52, 53, 54, 55, 56, 57, 58, 59, 60, 61, 62, 63, 64, 65, 66, 67, 68, 69, 70, 71, 72, 73, 74, 75, 76, 77, 78, 79, 80, 81, 82, 83, 84, 85, 86, 87, 88, 89, 90, 91, 92, 93, 94, 95, 96, 97, 98, 99, 100, 101, 102, 103, 104] (by decide +kernel) (by decide +kernel)) (goodIn_sub (fun _ h => List.mem_cons_of_mem _ (List.mem_append_left _ (List.mem_append_right _ h))) (by decide +kernel))) (goodIn_sub (fun _ h => List.mem_cons_of_mem _ (List.mem_append_right _ h)) (by decide +kernel))
set_option maxRecDepth 20000 in
theorem gL_gather_X9_gather : GoodIn wsL_gather (wsV RL 41 RX9 yX9_gather wsX9_gather) := goodIn_app (goodIn_of _ (by decide +kernel)) ggL_gather_X9_gather
theorem dL_gather_0 : decode cL_gather 0 = .ok (.aload 4, 2) := by decide +kernel
theorem dL_gather_2 : decode cL_gather 2 = .ok (.iconst 0, 1) := by decide +kernel
theorem dL_gather_3 : decode cL_gather 3 = .ok (.aload_n 0, 1) := by decide +kernel
theorem dL_gather_4 : decode cL_gather 4 = .ok (.iload_n 1, 1) := by decide +kernel
theorem dL_gather_5 : decode cL_gather 5 = .ok (.iload_n 2, 1) := by decide +kernel
theorem dL_gather_6 : decode cL_gather 6 = .ok (.iload_n 3, 1) := by decide +kernel
theorem dL_gather_7 : decode cL_gather 7 = .ok (.invokevirtual 41, 3) := by decide +kernel
theorem dL_gather_10 : decode cL_gather 10 = .ok (.i2l, 1) := by decide +kernel
theorem dL_gather_11 : decode cL_gather 11 = .ok (.lastore, 1) := by decide +kernel
theorem dL_gather_12 : decode cL_gather 12 = .ok (.goto 11, 3) := by decide +kernel
theorem dL_gather_15 : decode cL_gather 15 = .ok (.astore 5, 2) := by decide +kernel
theorem dL_gather_17 : decode cL_gather 17 = .ok (.iconst 1, 1) := by decide +kernel
theorem dL_gather_18 : decode cL_gather 18 = .ok (.ireturn, 1) := by decide +kernel
theorem dL_gather_19 : decode cL_gather 19 = .ok (.astore 5, 2) := by decide +kernel
theorem dL_gather_21 : decode cL_gather 21 = .ok (.iconst 2, 1) := by decide +kernel
theorem dL_gather_22 : decode cL_gather 22 = .ok (.ireturn, 1) := by decide +kernel
theorem dL_gather_23 : decode cL_gather 23 = .ok (.iconst 0, 1) := by decide +kernel
theorem dL_gather_24 : decode cL_gather 24 = .ok (.ireturn, 1) := by decide +kernel
set_option maxRecDepth 20000 in
theorem ggL_look_X9_look : GoodIn wsL_look wsX9_look := goodIn_ca (goodIn_ca (goodIn_r _ [7, 8, 9, 10, 11, 12, 6, 13, 14, 15, 16, 17, 18, 19, 20, 21, 22, 23, 24, 25, 26, 27, 28, 29, 30, 31, 32, 33, 34, 35, 36, 37, 38, 39, 40, 41, 42, 43, 44, 45, 46, 47] (by decide +kernel) (by decide +kernel)) (goodIn_sub (fun _ h => List.mem_cons_of_mem _ (List.mem_append_left _ (List.mem_append_right _ h))) (by decide +kernel))) (goodIn_sub (fun _ h => List.mem_cons_of_mem _ (List.mem_append_right _ h)) (by decide +kernel))
set_option maxRecDepth 20000 in
theorem gL_look_X9_look : GoodIn wsL_look (wsV RL 44 RX9 yX9_look wsX9_look) := goodIn_app (goodIn_of _ (by decide +kernel)) ggL_look_X9_look
theorem dL_look_0 : decode cL_look 0 = .ok (.aload 4, 2) := by decide +kernel
theorem dL_look_2 : decode cL_look 2 = .ok (.iconst 0, 1) := by decide +kernel
theorem dL_look_3 : decode cL_look 3 = .ok (.aload_n 0, 1) := by decide +kernel
theorem dL_look_4 : decode cL_look 4 = .ok (.iload_n 1, 1) := by decide +kernel
theorem dL_look_5 : decode cL_look 5 = .ok (.iload_n 2, 1) := by decide +kernel
theorem dL_look_6 : decode cL_look 6 = .ok (.iload_n 3, 1) := by decide +kernel
theorem dL_look_7 : decode cL_look 7 = .ok (.invokevirtual 44, 3) := by decide +kernel
theorem dL_look_10 : decode cL_look 10 = .ok (.i2l, 1) := by decide +kernel
theorem dL_look_11 : decode cL_look 11 = .ok (.lastore, 1) := by decide +kernel
theorem dL_look_12 : decode cL_look 12 = .ok (.goto 11, 3) := by decide +kernel
theorem dL_look_15 : decode cL_look 15 = .ok (.astore 5, 2) := by decide +kernel
theorem dL_look_17 : decode cL_look 17 = .ok (.iconst 1, 1) := by decide +kernel
theorem dL_look_18 : decode cL_look 18 = .ok (.ireturn, 1) := by decide +kernel
theorem dL_look_19 : decode cL_look 19 = .ok (.astore 5, 2) := by decide +kernel
theorem dL_look_21 : decode cL_look 21 = .ok (.iconst 2, 1) := by decide +kernel
theorem dL_look_22 : decode cL_look 22 = .ok (.ireturn, 1) := by decide +kernel
theorem dL_look_23 : decode cL_look 23 = .ok (.iconst 0, 1) := by decide +kernel
theorem dL_look_24 : decode cL_look 24 = .ok (.ireturn, 1) := by decide +kernel
set_option maxRecDepth 20000 in
theorem ggL_cast_X9_cast : GoodIn wsL_cast wsX9_cast := goodIn_ca (goodIn_r _ [6, 7, 8, 9, 5, 10, 11, 12, 13, 14, 15, 16, 17, 18, 19, 20, 21, 22, 23, 24, 25, 26, 27, 28, 29, 30, 31, 32] (by decide +kernel) (by decide +kernel)) (goodIn_sub (fun _ h => List.mem_cons_of_mem _ (List.mem_append_right _ h)) (by decide +kernel))
set_option maxRecDepth 20000 in
theorem gL_cast_X9_cast : GoodIn wsL_cast (wsV RL 49 RX9 yX9_cast wsX9_cast) := goodIn_app (goodIn_of _ (by decide +kernel)) ggL_cast_X9_cast
theorem dL_cast_0 : decode cL_cast 0 = .ok (.aload_n 2, 1) := by decide +kernel
theorem dL_cast_1 : decode cL_cast 1 = .ok (.iconst 0, 1) := by decide +kernel
theorem dL_cast_2 : decode cL_cast 2 = .ok (.aload_n 0, 1) := by decide +kernel
theorem dL_cast_3 : decode cL_cast 3 = .ok (.iload_n 1, 1) := by decide +kernel
theorem dL_cast_4 : decode cL_cast 4 = .ok (.invokevirtual 49, 3) := by decide +kernel
theorem dL_cast_7 : decode cL_cast 7 = .ok (.i2l, 1) := by decide +kernel
theorem dL_cast_8 : decode cL_cast 8 = .ok (.lastore, 1) := by decide +kernel
theorem dL_cast_9 : decode cL_cast 9 = .ok (.goto 6, 3) := by decide +kernel
theorem dL_cast_12 : decode cL_cast 12 = .ok (.astore_n 3, 1) := by decide +kernel
theorem dL_cast_13 : decode cL_cast 13 = .ok (.iconst 1, 1) := by decide +kernel
theorem dL_cast_14 : decode cL_cast 14 = .ok (.ireturn, 1) := by decide +kernel
theorem dL_cast_15 : decode cL_cast 15 = .ok (.iconst 0, 1) := by decide +kernel
theorem dL_cast_16 : decode cL_cast 16 = .ok (.ireturn, 1) := by decide +kernel
set_option maxRecDepth 20000 in
theorem ggL_has_X9_has : GoodIn wsL_has wsX9_has := goodIn_ca (goodIn_ca (goodIn_r _ [7, 8, 9, 10, 11, 12, 6, 13, 14, 15, 16, 17, 18, 19, 20, 21, 22, 23, 24, 25, 26, 27, 28, 29, 30, 31, 32, 33, 34, 35, 36, 37, 38, 39, 40, 41, 42, 43, 44, 45, 46, 47, 48, 49, 50, 51] (by decide +kernel) (by decide +kernel)) (goodIn_sub (fun _ h => List.mem_cons_of_mem _ (List.mem_append_left _ (List.mem_append_right _ h))) (by decide +kernel))) (goodIn_sub (fun _ h => List.mem_cons_of_mem _ (List.mem_append_right _ h)) (by decide +kernel))
set_option maxRecDepth 20000 in
theorem gL_has_X9_has : GoodIn wsL_has (wsV RL 53 RX9 yX9_has wsX9_has) := goodIn_app (goodIn_of _ (by decide +kernel)) ggL_has_X9_has
theorem dL_has_0 : decode cL_has 0 = .ok (.aload_n 3, 1) := by decide +kernel
theorem dL_has_1 : decode cL_has 1 = .ok (.iconst 0, 1) := by decide +kernel
theorem dL_has_2 : decode cL_has 2 = .ok (.aload_n 0, 1) := by decide +kernel
theorem dL_has_3 : decode cL_has 3 = .ok (.iload_n 1, 1) := by decide +kernel
theorem dL_has_4 : decode cL_has 4 = .ok (.iload_n 2, 1) := by decide +kernel
theorem dL_has_5 : decode cL_has 5 = .ok (.invokevirtual 53, 3) := by decide +kernel
theorem dL_has_8 : decode cL_has 8 = .ok (.i2l, 1) := by decide +kernel
theorem dL_has_9 : decode cL_has 9 = .ok (.lastore, 1) := by decide +kernel
theorem dL_has_10 : decode cL_has 10 = .ok (.goto 11, 3) := by decide +kernel
theorem dL_has_13 : decode cL_has 13 = .ok (.astore 4, 2) := by decide +kernel
theorem dL_has_15 : decode cL_has 15 = .ok (.iconst 1, 1) := by decide +kernel
theorem dL_has_16 : decode cL_has 16 = .ok (.ireturn, 1) := by decide +kernel
theorem dL_has_17 : decode cL_has 17 = .ok (.astore 4, 2) := by decide +kernel
theorem dL_has_19 : decode cL_has 19 = .ok (.iconst 2, 1) := by decide +kernel
theorem dL_has_20 : decode cL_has 20 = .ok (.ireturn, 1) := by decide +kernel
theorem dL_has_21 : decode cL_has 21 = .ok (.iconst 0, 1) := by decide +kernel
theorem dL_has_22 : decode cL_has 22 = .ok (.ireturn, 1) := by decide +kernel
set_option maxRecDepth 20000 in
theorem ggL_owes_X9_owes : GoodIn wsL_owes wsX9_owes := goodIn_ca (goodIn_r _ [6, 7, 8, 9, 5, 10, 11, 12, 13, 14, 15, 16, 17, 18, 19, 20, 21, 22, 23, 24, 25, 26, 27, 28, 29, 30, 31, 32, 33, 34, 35, 36, 37, 38, 39, 40, 41, 42, 43, 44, 45, 46, 47, 48, 49, 50, 51, 52, 53] (by decide +kernel) (by decide +kernel)) (goodIn_sub (fun _ h => List.mem_cons_of_mem _ (List.mem_append_right _ h)) (by decide +kernel))
set_option maxRecDepth 20000 in
theorem gL_owes_X9_owes : GoodIn wsL_owes (wsV RL 57 RX9 yX9_owes wsX9_owes) := goodIn_app (goodIn_of _ (by decide +kernel)) ggL_owes_X9_owes
theorem dL_owes_0 : decode cL_owes 0 = .ok (.aload 4, 2) := by decide +kernel
theorem dL_owes_2 : decode cL_owes 2 = .ok (.iconst 0, 1) := by decide +kernel
theorem dL_owes_3 : decode cL_owes 3 = .ok (.aload_n 0, 1) := by decide +kernel
theorem dL_owes_4 : decode cL_owes 4 = .ok (.iload_n 1, 1) := by decide +kernel
theorem dL_owes_5 : decode cL_owes 5 = .ok (.iload_n 2, 1) := by decide +kernel
theorem dL_owes_6 : decode cL_owes 6 = .ok (.iload_n 3, 1) := by decide +kernel
theorem dL_owes_7 : decode cL_owes 7 = .ok (.invokevirtual 57, 3) := by decide +kernel
theorem dL_owes_10 : decode cL_owes 10 = .ok (.i2l, 1) := by decide +kernel
theorem dL_owes_11 : decode cL_owes 11 = .ok (.lastore, 1) := by decide +kernel
theorem dL_owes_12 : decode cL_owes 12 = .ok (.goto 7, 3) := by decide +kernel
theorem dL_owes_15 : decode cL_owes 15 = .ok (.astore 5, 2) := by decide +kernel
theorem dL_owes_17 : decode cL_owes 17 = .ok (.iconst 1, 1) := by decide +kernel
theorem dL_owes_18 : decode cL_owes 18 = .ok (.ireturn, 1) := by decide +kernel
theorem dL_owes_19 : decode cL_owes 19 = .ok (.iconst 0, 1) := by decide +kernel
theorem dL_owes_20 : decode cL_owes 20 = .ok (.ireturn, 1) := by decide +kernel
set_option maxRecDepth 20000 in
theorem ggL_pit_X9_pit : GoodIn wsL_pit wsX9_pit := goodIn_ca (goodIn_ca (goodIn_r _ [7, 8, 9, 10, 11, 12, 13, 14, 15, 16, 17, 6, 18, 19, 20, 21, 22, 23, 24, 25, 26, 27, 28, 29, 30, 31, 32, 33, 34, 35, 36, 37, 38, 39, 40, 41, 42, 43, 44, 45, 46, 47] (by decide +kernel) (by decide +kernel)) (goodIn_sub (fun _ h => List.mem_cons_of_mem _ (List.mem_append_left _ (List.mem_append_right _ h))) (by decide +kernel))) (goodIn_sub (fun _ h => List.mem_cons_of_mem _ (List.mem_append_right _ h)) (by decide +kernel))
set_option maxRecDepth 20000 in
theorem gL_pit_X9_pit : GoodIn wsL_pit (wsV RL 60 RX9 yX9_pit wsX9_pit) := goodIn_app (goodIn_of _ (by decide +kernel)) ggL_pit_X9_pit
theorem dL_pit_0 : decode cL_pit 0 = .ok (.aload_n 2, 1) := by decide +kernel
theorem dL_pit_1 : decode cL_pit 1 = .ok (.iconst 0, 1) := by decide +kernel
theorem dL_pit_2 : decode cL_pit 2 = .ok (.aload_n 0, 1) := by decide +kernel
theorem dL_pit_3 : decode cL_pit 3 = .ok (.iload_n 1, 1) := by decide +kernel
theorem dL_pit_4 : decode cL_pit 4 = .ok (.invokevirtual 60, 3) := by decide +kernel
theorem dL_pit_7 : decode cL_pit 7 = .ok (.i2l, 1) := by decide +kernel
theorem dL_pit_8 : decode cL_pit 8 = .ok (.lastore, 1) := by decide +kernel
theorem dL_pit_9 : decode cL_pit 9 = .ok (.goto 9, 3) := by decide +kernel
theorem dL_pit_12 : decode cL_pit 12 = .ok (.astore_n 3, 1) := by decide +kernel
theorem dL_pit_13 : decode cL_pit 13 = .ok (.iconst 1, 1) := by decide +kernel
theorem dL_pit_14 : decode cL_pit 14 = .ok (.ireturn, 1) := by decide +kernel
theorem dL_pit_15 : decode cL_pit 15 = .ok (.astore_n 3, 1) := by decide +kernel
theorem dL_pit_16 : decode cL_pit 16 = .ok (.iconst 2, 1) := by decide +kernel
theorem dL_pit_17 : decode cL_pit 17 = .ok (.ireturn, 1) := by decide +kernel
theorem dL_pit_18 : decode cL_pit 18 = .ok (.iconst 0, 1) := by decide +kernel
theorem dL_pit_19 : decode cL_pit 19 = .ok (.ireturn, 1) := by decide +kernel
set_option maxRecDepth 20000 in
theorem ggL_light_X9_light : GoodIn wsL_light wsX9_light := goodIn_ca (goodIn_ca (goodIn_r _ [7, 8, 9, 10, 11, 12, 6, 13, 14, 15, 16, 17, 18, 19, 20, 21, 22, 23, 24, 25, 26, 27, 28, 29, 30, 31, 32, 33, 34, 35, 36, 37, 38, 39, 40, 41, 42, 43, 44, 45, 46] (by decide +kernel) (by decide +kernel)) (goodIn_sub (fun _ h => List.mem_cons_of_mem _ (List.mem_append_left _ (List.mem_append_right _ h))) (by decide +kernel))) (goodIn_sub (fun _ h => List.mem_cons_of_mem _ (List.mem_append_right _ h)) (by decide +kernel))
set_option maxRecDepth 20000 in
theorem gL_light_X9_light : GoodIn wsL_light (wsV RL 63 RX9 yX9_light wsX9_light) := goodIn_app (goodIn_of _ (by decide +kernel)) ggL_light_X9_light
theorem dL_light_0 : decode cL_light 0 = .ok (.aload_n 3, 1) := by decide +kernel
theorem dL_light_1 : decode cL_light 1 = .ok (.iconst 0, 1) := by decide +kernel
theorem dL_light_2 : decode cL_light 2 = .ok (.aload_n 0, 1) := by decide +kernel
theorem dL_light_3 : decode cL_light 3 = .ok (.iload_n 1, 1) := by decide +kernel
theorem dL_light_4 : decode cL_light 4 = .ok (.iload_n 2, 1) := by decide +kernel
theorem dL_light_5 : decode cL_light 5 = .ok (.invokevirtual 63, 3) := by decide +kernel
theorem dL_light_8 : decode cL_light 8 = .ok (.ifCond .eq 7, 3) := by decide +kernel
theorem dL_light_11 : decode cL_light 11 = .ok (.lconst 1, 1) := by decide +kernel
theorem dL_light_12 : decode cL_light 12 = .ok (.goto 4, 3) := by decide +kernel
theorem dL_light_15 : decode cL_light 15 = .ok (.lconst 0, 1) := by decide +kernel
theorem dL_light_16 : decode cL_light 16 = .ok (.lastore, 1) := by decide +kernel
theorem dL_light_17 : decode cL_light 17 = .ok (.goto 11, 3) := by decide +kernel
theorem dL_light_20 : decode cL_light 20 = .ok (.astore 4, 2) := by decide +kernel
theorem dL_light_22 : decode cL_light 22 = .ok (.iconst 1, 1) := by decide +kernel
theorem dL_light_23 : decode cL_light 23 = .ok (.ireturn, 1) := by decide +kernel
theorem dL_light_24 : decode cL_light 24 = .ok (.astore 4, 2) := by decide +kernel
theorem dL_light_26 : decode cL_light 26 = .ok (.iconst 2, 1) := by decide +kernel
theorem dL_light_27 : decode cL_light 27 = .ok (.ireturn, 1) := by decide +kernel
theorem dL_light_28 : decode cL_light 28 = .ok (.iconst 0, 1) := by decide +kernel
theorem dL_light_29 : decode cL_light 29 = .ok (.ireturn, 1) := by decide +kernel
set_option maxRecDepth 20000 in
theorem ggL_burns_X9_burns : GoodIn wsL_burns wsX9_burns := goodIn_ca (goodIn_r _ [6, 7, 8, 9, 5, 10, 11, 12, 13, 14, 15, 16, 17, 18, 19, 20, 21, 22, 23, 24, 25, 26, 27, 28, 29, 30, 31, 32] (by decide +kernel) (by decide +kernel)) (goodIn_sub (fun _ h => List.mem_cons_of_mem _ (List.mem_append_right _ h)) (by decide +kernel))
set_option maxRecDepth 20000 in
theorem gL_burns_X9_burns : GoodIn wsL_burns (wsV RL 67 RX9 yX9_burns wsX9_burns) := goodIn_app (goodIn_of _ (by decide +kernel)) ggL_burns_X9_burns
theorem dL_burns_0 : decode cL_burns 0 = .ok (.aload_n 2, 1) := by decide +kernel
theorem dL_burns_1 : decode cL_burns 1 = .ok (.iconst 0, 1) := by decide +kernel
theorem dL_burns_2 : decode cL_burns 2 = .ok (.aload_n 0, 1) := by decide +kernel
theorem dL_burns_3 : decode cL_burns 3 = .ok (.iload_n 1, 1) := by decide +kernel
theorem dL_burns_4 : decode cL_burns 4 = .ok (.invokevirtual 67, 3) := by decide +kernel
theorem dL_burns_7 : decode cL_burns 7 = .ok (.i2l, 1) := by decide +kernel
theorem dL_burns_8 : decode cL_burns 8 = .ok (.lastore, 1) := by decide +kernel
theorem dL_burns_9 : decode cL_burns 9 = .ok (.goto 6, 3) := by decide +kernel
theorem dL_burns_12 : decode cL_burns 12 = .ok (.astore_n 3, 1) := by decide +kernel
theorem dL_burns_13 : decode cL_burns 13 = .ok (.iconst 1, 1) := by decide +kernel
theorem dL_burns_14 : decode cL_burns 14 = .ok (.ireturn, 1) := by decide +kernel
theorem dL_burns_15 : decode cL_burns 15 = .ok (.iconst 0, 1) := by decide +kernel
theorem dL_burns_16 : decode cL_burns 16 = .ok (.ireturn, 1) := by decide +kernel
set_option maxRecDepth 20000 in
theorem ggL_sell_X9_sell : GoodIn wsL_sell wsX9_sell := goodIn_ca (goodIn_ca (goodIn_r _ [7, 8, 9, 10, 11, 12, 13, 14, 15, 16, 17, 18, 6, 19, 20, 21, 22, 23, 24, 25, 26, 27, 28, 29, 30, 31, 32, 33, 34, 35, 36, 37, 38, 39, 40, 41, 42, 43, 44, 45, 46, 47, 48, 49, 50, 51, 52, 53, 54, 55, 56, 57, 58, 59, 60, 61, 62, 63, 64, 65, 66, 67, 68, 69, 70, 71, 72, 73, 74, 75, 76, 77, 78, 79, 80, 81, 82, 83, 84, 85, 86, 87, 88, 89, 90, 91, 92, 93, 94, 95, 96, 97, 98, 99, 100, 101, 102, 103, 104, 105, 106, 107] (by decide +kernel) (by decide +kernel)) (goodIn_sub (fun _ h => List.mem_cons_of_mem _ (List.mem_append_left _ (List.mem_append_right _ h))) (by decide +kernel))) (goodIn_sub (fun _ h => List.mem_cons_of_mem _ (List.mem_append_right _ h)) (by decide +kernel))
set_option maxRecDepth 20000 in
theorem gL_sell_X9_sell : GoodIn wsL_sell (wsV RL 70 RX9 yX9_sell wsX9_sell) := goodIn_app (goodIn_of _ (by decide +kernel)) ggL_sell_X9_sell
theorem dL_sell_0 : decode cL_sell 0 = .ok (.aload 9, 2) := by decide +kernel
theorem dL_sell_2 : decode cL_sell 2 = .ok (.iconst 0, 1) := by decide +kernel
theorem dL_sell_3 : decode cL_sell 3 = .ok (.aload_n 0, 1) := by decide +kernel
theorem dL_sell_4 : decode cL_sell 4 = .ok (.iload_n 1, 1) := by decide +kernel
theorem dL_sell_5 : decode cL_sell 5 = .ok (.iload_n 2, 1) := by decide +kernel
theorem dL_sell_6 : decode cL_sell 6 = .ok (.iload_n 3, 1) := by decide +kernel
theorem dL_sell_7 : decode cL_sell 7 = .ok (.iload 4, 2) := by decide +kernel
theorem dL_sell_9 : decode cL_sell 9 = .ok (.iload 5, 2) := by decide +kernel
theorem dL_sell_11 : decode cL_sell 11 = .ok (.iload 6, 2) := by decide +kernel
theorem dL_sell_13 : decode cL_sell 13 = .ok (.iload 7, 2) := by decide +kernel
theorem dL_sell_15 : decode cL_sell 15 = .ok (.iload 8, 2) := by decide +kernel
theorem dL_sell_17 : decode cL_sell 17 = .ok (.invokevirtual 70, 3) := by decide +kernel
theorem dL_sell_20 : decode cL_sell 20 = .ok (.i2l, 1) := by decide +kernel
theorem dL_sell_21 : decode cL_sell 21 = .ok (.lastore, 1) := by decide +kernel
theorem dL_sell_22 : decode cL_sell 22 = .ok (.goto 11, 3) := by decide +kernel
theorem dL_sell_25 : decode cL_sell 25 = .ok (.astore 10, 2) := by decide +kernel
theorem dL_sell_27 : decode cL_sell 27 = .ok (.iconst 1, 1) := by decide +kernel
theorem dL_sell_28 : decode cL_sell 28 = .ok (.ireturn, 1) := by decide +kernel
theorem dL_sell_29 : decode cL_sell 29 = .ok (.astore 10, 2) := by decide +kernel
theorem dL_sell_31 : decode cL_sell 31 = .ok (.iconst 2, 1) := by decide +kernel
theorem dL_sell_32 : decode cL_sell 32 = .ok (.ireturn, 1) := by decide +kernel
theorem dL_sell_33 : decode cL_sell 33 = .ok (.iconst 0, 1) := by decide +kernel
theorem dL_sell_34 : decode cL_sell 34 = .ok (.ireturn, 1) := by decide +kernel
set_option maxRecDepth 20000 in
theorem ggL_lot_X9_lot : GoodIn wsL_lot wsX9_lot := goodIn_ca (goodIn_ca (goodIn_r _ [7, 8, 9, 10, 11, 12, 6, 13, 14, 15, 16, 17, 18, 19, 20, 21, 22, 23, 24, 25, 26, 27, 28, 29, 30, 31, 32, 33, 34, 35, 36, 37] (by decide +kernel) (by decide +kernel)) (goodIn_sub (fun _ h => List.mem_cons_of_mem _ (List.mem_append_left _ (List.mem_append_right _ h))) (by decide +kernel))) (goodIn_sub (fun _ h => List.mem_cons_of_mem _ (List.mem_append_right _ h)) (by decide +kernel))
set_option maxRecDepth 20000 in
theorem gL_lot_X9_lot : GoodIn wsL_lot (wsV RL 74 RX9 yX9_lot wsX9_lot) := goodIn_app (goodIn_of _ (by decide +kernel)) ggL_lot_X9_lot
theorem dL_lot_0 : decode cL_lot 0 = .ok (.aload_n 3, 1) := by decide +kernel
theorem dL_lot_1 : decode cL_lot 1 = .ok (.iconst 0, 1) := by decide +kernel
theorem dL_lot_2 : decode cL_lot 2 = .ok (.aload_n 0, 1) := by decide +kernel
theorem dL_lot_3 : decode cL_lot 3 = .ok (.iload_n 1, 1) := by decide +kernel
theorem dL_lot_4 : decode cL_lot 4 = .ok (.iload_n 2, 1) := by decide +kernel
theorem dL_lot_5 : decode cL_lot 5 = .ok (.invokevirtual 74, 3) := by decide +kernel
theorem dL_lot_8 : decode cL_lot 8 = .ok (.i2l, 1) := by decide +kernel
theorem dL_lot_9 : decode cL_lot 9 = .ok (.lastore, 1) := by decide +kernel
theorem dL_lot_10 : decode cL_lot 10 = .ok (.goto 11, 3) := by decide +kernel
theorem dL_lot_13 : decode cL_lot 13 = .ok (.astore 4, 2) := by decide +kernel
theorem dL_lot_15 : decode cL_lot 15 = .ok (.iconst 1, 1) := by decide +kernel
theorem dL_lot_16 : decode cL_lot 16 = .ok (.ireturn, 1) := by decide +kernel
theorem dL_lot_17 : decode cL_lot 17 = .ok (.astore 4, 2) := by decide +kernel
theorem dL_lot_19 : decode cL_lot 19 = .ok (.iconst 2, 1) := by decide +kernel
theorem dL_lot_20 : decode cL_lot 20 = .ok (.ireturn, 1) := by decide +kernel
theorem dL_lot_21 : decode cL_lot 21 = .ok (.iconst 0, 1) := by decide +kernel
theorem dL_lot_22 : decode cL_lot 22 = .ok (.ireturn, 1) := by decide +kernel
set_option maxRecDepth 20000 in
theorem ggL_enter_X9_enter : GoodIn wsL_enter wsX9_enter := goodIn_ca (goodIn_ca (goodIn_r _ [7, 8, 9, 10, 11, 12, 13, 14, 15, 16, 6, 17, 18, 19, 20, 21, 22, 23, 24, 25, 26, 27, 28, 29, 30, 31, 32, 33, 34, 35, 36, 37, 38, 39, 40, 41, 42, 43, 44, 45, 46, 47, 48, 49, 50, 51, 52, 53, 54, 55, 56, 57, 58, 59, 60, 61] (by decide +kernel) (by decide +kernel)) (goodIn_sub (fun _ h => List.mem_cons_of_mem _ (List.mem_append_left _ (List.mem_append_right _ h))) (by decide +kernel))) (goodIn_sub (fun _ h => List.mem_cons_of_mem _ (List.mem_append_right _ h)) (by decide +kernel))
set_option maxRecDepth 20000 in
theorem gL_enter_X9_enter : GoodIn wsL_enter (wsV RL 77 RX9 yX9_enter wsX9_enter) := goodIn_app (goodIn_of _ (by decide +kernel)) ggL_enter_X9_enter
theorem dL_enter_0 : decode cL_enter 0 = .ok (.aload 4, 2) := by decide +kernel
theorem dL_enter_2 : decode cL_enter 2 = .ok (.iconst 0, 1) := by decide +kernel
theorem dL_enter_3 : decode cL_enter 3 = .ok (.aload_n 0, 1) := by decide +kernel
theorem dL_enter_4 : decode cL_enter 4 = .ok (.iload_n 1, 1) := by decide +kernel
theorem dL_enter_5 : decode cL_enter 5 = .ok (.iload_n 2, 1) := by decide +kernel
theorem dL_enter_6 : decode cL_enter 6 = .ok (.iload_n 3, 1) := by decide +kernel
theorem dL_enter_7 : decode cL_enter 7 = .ok (.invokevirtual 77, 3) := by decide +kernel
theorem dL_enter_10 : decode cL_enter 10 = .ok (.i2l, 1) := by decide +kernel
theorem dL_enter_11 : decode cL_enter 11 = .ok (.lastore, 1) := by decide +kernel
theorem dL_enter_12 : decode cL_enter 12 = .ok (.goto 11, 3) := by decide +kernel
theorem dL_enter_15 : decode cL_enter 15 = .ok (.astore 5, 2) := by decide +kernel
theorem dL_enter_17 : decode cL_enter 17 = .ok (.iconst 1, 1) := by decide +kernel
theorem dL_enter_18 : decode cL_enter 18 = .ok (.ireturn, 1) := by decide +kernel
theorem dL_enter_19 : decode cL_enter 19 = .ok (.astore 5, 2) := by decide +kernel
theorem dL_enter_21 : decode cL_enter 21 = .ok (.iconst 2, 1) := by decide +kernel
theorem dL_enter_22 : decode cL_enter 22 = .ok (.ireturn, 1) := by decide +kernel
theorem dL_enter_23 : decode cL_enter 23 = .ok (.iconst 0, 1) := by decide +kernel
theorem dL_enter_24 : decode cL_enter 24 = .ok (.ireturn, 1) := by decide +kernel
set_option maxRecDepth 20000 in
theorem ggL_undo_X9_undo : GoodIn wsL_undo wsX9_undo := goodIn_ca (goodIn_r _ [6, 7, 8, 9, 10, 11, 12, 13, 14, 15, 16, 17, 18, 19, 20, 21, 22, 23, 24, 25, 26, 27, 28, 29, 30, 31, 32, 33, 34, 35, 36, 37, 38, 39, 40, 41, 42, 43, 44] (by decide +kernel) (by decide +kernel)) (goodIn_sub (fun _ h => List.mem_cons_of_mem _ (List.mem_append_right _ h)) (by decide +kernel))
set_option maxRecDepth 20000 in
theorem gL_undo_X9_undo : GoodIn wsL_undo (wsV RL 80 RX9 yX9_undo wsX9_undo) := goodIn_app (goodIn_of _ (by decide +kernel)) ggL_undo_X9_undo
theorem dL_undo_0 : decode cL_undo 0 = .ok (.aload_n 2, 1) := by decide +kernel
theorem dL_undo_1 : decode cL_undo 1 = .ok (.iconst 0, 1) := by decide +kernel
theorem dL_undo_2 : decode cL_undo 2 = .ok (.aload_n 0, 1) := by decide +kernel
theorem dL_undo_3 : decode cL_undo 3 = .ok (.iload_n 1, 1) := by decide +kernel
theorem dL_undo_4 : decode cL_undo 4 = .ok (.invokevirtual 80, 3) := by decide +kernel
theorem dL_undo_7 : decode cL_undo 7 = .ok (.ifCond .eq 7, 3) := by decide +kernel
theorem dL_undo_10 : decode cL_undo 10 = .ok (.lconst 1, 1) := by decide +kernel
theorem dL_undo_11 : decode cL_undo 11 = .ok (.goto 4, 3) := by decide +kernel
theorem dL_undo_14 : decode cL_undo 14 = .ok (.lconst 0, 1) := by decide +kernel
theorem dL_undo_15 : decode cL_undo 15 = .ok (.lastore, 1) := by decide +kernel
theorem dL_undo_16 : decode cL_undo 16 = .ok (.goto 6, 3) := by decide +kernel
theorem dL_undo_19 : decode cL_undo 19 = .ok (.astore_n 3, 1) := by decide +kernel
theorem dL_undo_20 : decode cL_undo 20 = .ok (.iconst 1, 1) := by decide +kernel
theorem dL_undo_21 : decode cL_undo 21 = .ok (.ireturn, 1) := by decide +kernel
theorem dL_undo_22 : decode cL_undo 22 = .ok (.iconst 0, 1) := by decide +kernel
theorem dL_undo_23 : decode cL_undo 23 = .ok (.ireturn, 1) := by decide +kernel
set_option maxRecDepth 20000 in
theorem ggL_balance_X9_balance : GoodIn wsL_balance wsX9_balance := goodIn_ca (goodIn_r _ [6, 7, 8, 9, 10, 5, 11, 12, 13, 14, 15, 16, 17, 18, 19, 20, 21, 22, 23, 24, 25, 26, 27, 28, 29, 30, 31, 32, 33, 34, 35, 36, 37, 38, 39, 40, 41, 42, 43, 44, 45, 46, 47, 48, 49, 50, 51, 52, 53, 54, 55] (by decide +kernel) (by decide +kernel)) (goodIn_sub (fun _ h => List.mem_cons_of_mem _ (List.mem_append_right _ h)) (by decide +kernel))
set_option maxRecDepth 20000 in
theorem gL_balance_X9_balance : GoodIn wsL_balance (wsV RL 84 RX9 yX9_balance wsX9_balance) := goodIn_app (goodIn_of _ (by decide +kernel)) ggL_balance_X9_balance
theorem dL_balance_0 : decode cL_balance 0 = .ok (.aload 4, 2) := by decide +kernel
theorem dL_balance_2 : decode cL_balance 2 = .ok (.iconst 0, 1) := by decide +kernel
theorem dL_balance_3 : decode cL_balance 3 = .ok (.aload_n 0, 1) := by decide +kernel
theorem dL_balance_4 : decode cL_balance 4 = .ok (.iload_n 1, 1) := by decide +kernel
theorem dL_balance_5 : decode cL_balance 5 = .ok (.iload_n 2, 1) := by decide +kernel
theorem dL_balance_6 : decode cL_balance 6 = .ok (.iload_n 3, 1) := by decide +kernel
theorem dL_balance_7 : decode cL_balance 7 = .ok (.invokevirtual 84, 3) := by decide +kernel
theorem dL_balance_10 : decode cL_balance 10 = .ok (.i2l, 1) := by decide +kernel
theorem dL_balance_11 : decode cL_balance 11 = .ok (.lastore, 1) := by decide +kernel
theorem dL_balance_12 : decode cL_balance 12 = .ok (.goto 7, 3) := by decide +kernel
theorem dL_balance_15 : decode cL_balance 15 = .ok (.astore 5, 2) := by decide +kernel
theorem dL_balance_17 : decode cL_balance 17 = .ok (.iconst 1, 1) := by decide +kernel
theorem dL_balance_18 : decode cL_balance 18 = .ok (.ireturn, 1) := by decide +kernel
theorem dL_balance_19 : decode cL_balance 19 = .ok (.iconst 0, 1) := by decide +kernel
theorem dL_balance_20 : decode cL_balance 20 = .ok (.ireturn, 1) := by decide +kernel
