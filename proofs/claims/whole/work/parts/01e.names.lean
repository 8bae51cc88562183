theorem dX9_enter_0 : decode cX9_enter 0 = .ok (.aload_n 0, 1) := by decide +kernel
theorem dX9_enter_1 : decode cX9_enter 1 = .ok (.iload_n 1, 1) := by decide +kernel
theorem dX9_enter_2 : decode cX9_enter 2 = .ok (.invokevirtual 101, 3) := by decide +kernel
theorem dX9_enter_5 : decode cX9_enter 5 = .ok (.pop, 1) := by decide +kernel
theorem dX9_enter_6 : decode cX9_enter 6 = .ok (.iload_n 2, 1) := by decide +kernel
theorem dX9_enter_7 : decode cX9_enter 7 = .ok (.ldc_w 312, 3) := by decide +kernel
theorem dX9_enter_10 : decode cX9_enter 10 = .ok (.ldc_w 313, 3) := by decide +kernel
theorem dX9_enter_13 : decode cX9_enter 13 = .ok (.invokestatic 115, 3) := by decide +kernel
theorem dX9_enter_16 : decode cX9_enter 16 = .ok (.ifCond .eq 14, 3) := by decide +kernel
theorem dX9_enter_19 : decode cX9_enter 19 = .ok (.iload_n 3, 1) := by decide +kernel
theorem dX9_enter_20 : decode cX9_enter 20 = .ok (.iconst 0, 1) := by decide +kernel
theorem dX9_enter_21 : decode cX9_enter 21 = .ok (.sipush 9999, 3) := by decide +kernel
theorem dX9_enter_24 : decode cX9_enter 24 = .ok (.invokestatic 115, 3) := by decide +kernel
theorem dX9_enter_27 : decode cX9_enter 27 = .ok (.ifCond .ne 14, 3) := by decide +kernel
theorem dX9_enter_30 : decode cX9_enter 30 = .ok (.new 90, 3) := by decide +kernel
theorem dX9_enter_33 : decode cX9_enter 33 = .ok (.dup, 1) := by decide +kernel
theorem dX9_enter_34 : decode cX9_enter 34 = .ok (.ldc_w 314, 3) := by decide +kernel
theorem dX9_enter_37 : decode cX9_enter 37 = .ok (.invokespecial 94, 3) := by decide +kernel
theorem dX9_enter_40 : decode cX9_enter 40 = .ok (.athrow, 1) := by decide +kernel
theorem dX9_enter_41 : decode cX9_enter 41 = .ok (.aload_n 0, 1) := by decide +kernel
theorem dX9_enter_42 : decode cX9_enter 42 = .ok (.getfield 61, 3) := by decide +kernel
theorem dX9_enter_45 : decode cX9_enter 45 = .ok (.invokevirtual 276, 3) := by decide +kernel
theorem dX9_enter_48 : decode cX9_enter 48 = .ok (.ifCond .eq 7, 3) := by decide +kernel
theorem dX9_enter_51 : decode cX9_enter 51 = .ok (.iconst (-1), 1) := by decide +kernel
theorem dX9_enter_52 : decode cX9_enter 52 = .ok (.goto 17, 3) := by decide +kernel
theorem dX9_enter_55 : decode cX9_enter 55 = .ok (.aload_n 0, 1) := by decide +kernel
theorem dX9_enter_56 : decode cX9_enter 56 = .ok (.getfield 61, 3) := by decide +kernel
theorem dX9_enter_59 : decode cX9_enter 59 = .ok (.iload_n 1, 1) := by decide +kernel
theorem dX9_enter_60 : decode cX9_enter 60 = .ok (.iload_n 2, 1) := by decide +kernel
theorem dX9_enter_61 : decode cX9_enter 61 = .ok (.iload_n 3, 1) := by decide +kernel
theorem dX9_enter_62 : decode cX9_enter 62 = .ok (.aload_n 0, 1) := by decide +kernel
theorem dX9_enter_63 : decode cX9_enter 63 = .ok (.getfield 202, 3) := by decide +kernel
theorem dX9_enter_66 : decode cX9_enter 66 = .ok (.invokevirtual 283, 3) := by decide +kernel
theorem dX9_enter_69 : decode cX9_enter 69 = .ok (.ireturn, 1) := by decide +kernel
set_option maxRecDepth 20000 in
theorem ggX9_undo_X7_hasEntry : GoodIn wsX9_undo wsX7_hasEntry := goodIn_r _ [9, 10, 33, 34, 35, 36, 37, 38] (by decide +kernel) (by decide +kernel)
set_option maxRecDepth 20000 in
theorem gX9_undo_X7_hasEntry : GoodIn wsX9_undo (wsV RX9 316 RX7 yX7_hasEntry wsX7_hasEntry) := goodIn_app (goodIn_of _ (by decide +kernel)) ggX9_undo_X7_hasEntry
set_option maxRecDepth 20000 in
theorem ggX9_undo_X7_takeBack : GoodIn wsX9_undo wsX7_takeBack := goodIn_r _ [14, 15, 16, 6, 7, 8, 9, 10, 33, 34, 35, 36, 37, 38] (by decide +kernel) (by decide +kernel)
set_option maxRecDepth 20000 in
theorem gX9_undo_X7_takeBack : GoodIn wsX9_undo (wsV RX9 324 RX7 yX7_takeBack wsX7_takeBack) := goodIn_app (goodIn_of _ (by decide +kernel)) ggX9_undo_X7_takeBack
theorem dX9_undo_0 : decode cX9_undo 0 = .ok (.aload_n 0, 1) := by decide +kernel
theorem dX9_undo_1 : decode cX9_undo 1 = .ok (.getfield 61, 3) := by decide +kernel
theorem dX9_undo_4 : decode cX9_undo 4 = .ok (.iload_n 1, 1) := by decide +kernel
theorem dX9_undo_5 : decode cX9_undo 5 = .ok (.invokevirtual 316, 3) := by decide +kernel
theorem dX9_undo_8 : decode cX9_undo 8 = .ok (.ifCond .ne 14, 3) := by decide +kernel
theorem dX9_undo_11 : decode cX9_undo 11 = .ok (.new 319, 3) := by decide +kernel
theorem dX9_undo_14 : decode cX9_undo 14 = .ok (.dup, 1) := by decide +kernel
theorem dX9_undo_15 : decode cX9_undo 15 = .ok (.ldc_w 321, 3) := by decide +kernel
theorem dX9_undo_18 : decode cX9_undo 18 = .ok (.invokespecial 323, 3) := by decide +kernel
theorem dX9_undo_21 : decode cX9_undo 21 = .ok (.athrow, 1) := by decide +kernel
theorem dX9_undo_22 : decode cX9_undo 22 = .ok (.aload_n 0, 1) := by decide +kernel
theorem dX9_undo_23 : decode cX9_undo 23 = .ok (.getfield 61, 3) := by decide +kernel
theorem dX9_undo_26 : decode cX9_undo 26 = .ok (.iload_n 1, 1) := by decide +kernel
theorem dX9_undo_27 : decode cX9_undo 27 = .ok (.aload_n 0, 1) := by decide +kernel
theorem dX9_undo_28 : decode cX9_undo 28 = .ok (.getfield 202, 3) := by decide +kernel
theorem dX9_undo_31 : decode cX9_undo 31 = .ok (.invokevirtual 324, 3) := by decide +kernel
theorem dX9_undo_34 : decode cX9_undo 34 = .ok (.ireturn, 1) := by decide +kernel
set_option maxRecDepth 20000 in
theorem ggX9_balance_X9_needFamily : GoodIn wsX9_balance wsX9_needFamily := goodIn_ca (goodIn_r _ [6, 7, 8, 9, 29, 30, 31, 32, 33, 34, 35, 36, 37, 38, 39, 40, 41, 42, 43, 44] (by decide +kernel) (by decide +kernel)) (goodIn_sub (fun _ h => List.mem_cons_of_mem _ (List.mem_append_right _ h)) (by decide +kernel))
set_option maxRecDepth 20000 in
theorem gX9_balance_X9_needFamily : GoodIn wsX9_balance (wsV RX9 101 RX9 yX9_needFamily wsX9_needFamily) := goodIn_app (goodIn_of _ (by decide +kernel)) ggX9_balance_X9_needFamily
set_option maxRecDepth 20000 in
theorem ggX9_balance_X7_sumKnown : GoodIn wsX9_balance wsX7_sumKnown := goodIn_r _ [14, 15, 16, 17, 18, 19, 20, 21, 13, 22, 23, 24, 25, 26, 27, 28, 45, 46, 47, 48, 49, 50] (by decide +kernel) (by decide +kernel)
set_option maxRecDepth 20000 in
theorem gX9_balance_X7_sumKnown : GoodIn wsX9_balance (wsV RX9 328 RX7 yX7_sumKnown wsX7_sumKnown) := goodIn_app (goodIn_of _ (by decide +kernel)) ggX9_balance_X7_sumKnown
theorem dX9_balance_0 : decode cX9_balance 0 = .ok (.aload_n 0, 1) := by decide +kernel
theorem dX9_balance_1 : decode cX9_balance 1 = .ok (.iload_n 1, 1) := by decide +kernel
theorem dX9_balance_2 : decode cX9_balance 2 = .ok (.invokevirtual 101, 3) := by decide +kernel
theorem dX9_balance_5 : decode cX9_balance 5 = .ok (.pop, 1) := by decide +kernel
theorem dX9_balance_6 : decode cX9_balance 6 = .ok (.aload_n 0, 1) := by decide +kernel
theorem dX9_balance_7 : decode cX9_balance 7 = .ok (.getfield 61, 3) := by decide +kernel
theorem dX9_balance_10 : decode cX9_balance 10 = .ok (.iload_n 1, 1) := by decide +kernel
theorem dX9_balance_11 : decode cX9_balance 11 = .ok (.iload_n 2, 1) := by decide +kernel
theorem dX9_balance_12 : decode cX9_balance 12 = .ok (.iload_n 3, 1) := by decide +kernel
theorem dX9_balance_13 : decode cX9_balance 13 = .ok (.invokevirtual 328, 3) := by decide +kernel
theorem dX9_balance_16 : decode cX9_balance 16 = .ok (.ireturn, 1) := by decide +kernel
set_option maxRecDepth 20000 in
theorem ggX9_foretell_X1_addDay : GoodIn wsX9_foretell wsX1_addDay := goodIn_r _ [6, 7, 8, 9, 10, 27, 28, 29, 30, 31, 32] (by decide +kernel) (by decide +kernel)
set_option maxRecDepth 20000 in
theorem gX9_foretell_X1_addDay : GoodIn wsX9_foretell (wsV RX9 331 RX1 yX1_addDay wsX1_addDay) := goodIn_app (goodIn_of _ (by decide +kernel)) ggX9_foretell_X1_addDay
theorem dX9_foretell_0 : decode cX9_foretell 0 = .ok (.aload_n 0, 1) := by decide +kernel
theorem dX9_foretell_1 : decode cX9_foretell 1 = .ok (.getfield 68, 3) := by decide +kernel
theorem dX9_foretell_4 : decode cX9_foretell 4 = .ok (.iload_n 1, 1) := by decide +kernel
theorem dX9_foretell_5 : decode cX9_foretell 5 = .ok (.iload_n 2, 1) := by decide +kernel
theorem dX9_foretell_6 : decode cX9_foretell 6 = .ok (.iload_n 3, 1) := by decide +kernel
theorem dX9_foretell_7 : decode cX9_foretell 7 = .ok (.invokevirtual 331, 3) := by decide +kernel
theorem dX9_foretell_10 : decode cX9_foretell 10 = .ok (.ifCond .eq 13, 3) := by decide +kernel
theorem dX9_foretell_13 : decode cX9_foretell 13 = .ok (.aload_n 0, 1) := by decide +kernel
theorem dX9_foretell_14 : decode cX9_foretell 14 = .ok (.getfield 68, 3) := by decide +kernel
theorem dX9_foretell_17 : decode cX9_foretell 17 = .ok (.getfield 335, 3) := by decide +kernel
theorem dX9_foretell_20 : decode cX9_foretell 20 = .ok (.goto 4, 3) := by decide +kernel
theorem dX9_foretell_23 : decode cX9_foretell 23 = .ok (.iconst (-1), 1) := by decide +kernel
theorem dX9_foretell_24 : decode cX9_foretell 24 = .ok (.ireturn, 1) := by decide +kernel
set_option maxRecDepth 20000 in
theorem ggX9_plan_X1_mostBurnt : GoodIn wsX9_plan wsX1_mostBurnt := goodIn_r _ [6, 7, 8, 9, 10, 11, 12, 13, 14, 15, 16, 17, 18, 19, 20, 21, 22, 23, 24, 25, 26, 5, 27, 28, 29, 30, 31, 32, 33, 34, 35, 36, 37, 38, 39, 40, 57, 58, 59, 60, 61, 62] (by decide +kernel) (by decide +kernel)
set_option maxRecDepth 20000 in
theorem gX9_plan_X1_mostBurnt : GoodIn wsX9_plan (wsV RX9 338 RX1 yX1_mostBurnt wsX1_mostBurnt) := goodIn_app (goodIn_of _ (by decide +kernel)) ggX9_plan_X1_mostBurnt
theorem dX9_plan_0 : decode cX9_plan 0 = .ok (.aload_n 0, 1) := by decide +kernel
theorem dX9_plan_1 : decode cX9_plan 1 = .ok (.getfield 68, 3) := by decide +kernel
theorem dX9_plan_4 : decode cX9_plan 4 = .ok (.invokevirtual 338, 3) := by decide +kernel
theorem dX9_plan_7 : decode cX9_plan 7 = .ok (.istore_n 1, 1) := by decide +kernel
theorem dX9_plan_8 : decode cX9_plan 8 = .ok (.aload_n 0, 1) := by decide +kernel
theorem dX9_plan_9 : decode cX9_plan 9 = .ok (.getfield 68, 3) := by decide +kernel
theorem dX9_plan_12 : decode cX9_plan 12 = .ok (.iconst 0, 1) := by decide +kernel
theorem dX9_plan_13 : decode cX9_plan 13 = .ok (.putfield 335, 3) := by decide +kernel
theorem dX9_plan_16 : decode cX9_plan 16 = .ok (.iload_n 1, 1) := by decide +kernel
theorem dX9_plan_17 : decode cX9_plan 17 = .ok (.ireturn, 1) := by decide +kernel
set_option maxRecDepth 20000 in
theorem ggX9_count_X9_burningPits : GoodIn wsX9_count wsX9_burningPits := goodIn_r _ [12, 13, 14, 15, 16, 17, 18, 19, 20, 21, 22, 23, 24, 25, 26, 27, 28, 29, 49, 50, 51] (by decide +kernel) (by decide +kernel)
set_option maxRecDepth 20000 in
theorem gX9_count_X9_burningPits : GoodIn wsX9_count (wsV RX9 341 RX9 yX9_burningPits wsX9_burningPits) := goodIn_app (goodIn_of _ (by decide +kernel)) ggX9_count_X9_burningPits
theorem dX9_count_0 : decode cX9_count 0 = .ok (.iload_n 1, 1) := by decide +kernel
theorem dX9_count_1 : decode cX9_count 1 = .ok (.tableswitch 108 0 8 #[51, 56, 61, 66, 71, 76, 84, 92, 100], 51) := by decide +kernel
theorem dX9_count_52 : decode cX9_count 52 = .ok (.aload_n 0, 1) := by decide +kernel
theorem dX9_count_53 : decode cX9_count 53 = .ok (.getfield 202, 3) := by decide +kernel
theorem dX9_count_56 : decode cX9_count 56 = .ok (.ireturn, 1) := by decide +kernel
theorem dX9_count_57 : decode cX9_count 57 = .ok (.aload_n 0, 1) := by decide +kernel
theorem dX9_count_58 : decode cX9_count 58 = .ok (.getfield 80, 3) := by decide +kernel
theorem dX9_count_61 : decode cX9_count 61 = .ok (.ireturn, 1) := by decide +kernel
theorem dX9_count_62 : decode cX9_count 62 = .ok (.aload_n 0, 1) := by decide +kernel
theorem dX9_count_63 : decode cX9_count 63 = .ok (.getfield 246, 3) := by decide +kernel
theorem dX9_count_66 : decode cX9_count 66 = .ok (.ireturn, 1) := by decide +kernel
theorem dX9_count_67 : decode cX9_count 67 = .ok (.aload_n 0, 1) := by decide +kernel
theorem dX9_count_68 : decode cX9_count 68 = .ok (.invokevirtual 341, 3) := by decide +kernel
theorem dX9_count_71 : decode cX9_count 71 = .ok (.ireturn, 1) := by decide +kernel
theorem dX9_count_72 : decode cX9_count 72 = .ok (.aload_n 0, 1) := by decide +kernel
theorem dX9_count_73 : decode cX9_count 73 = .ok (.getfield 273, 3) := by decide +kernel
theorem dX9_count_76 : decode cX9_count 76 = .ok (.ireturn, 1) := by decide +kernel
theorem dX9_count_77 : decode cX9_count 77 = .ok (.aload_n 0, 1) := by decide +kernel
theorem dX9_count_78 : decode cX9_count 78 = .ok (.getfield 61, 3) := by decide +kernel
theorem dX9_count_81 : decode cX9_count 81 = .ok (.getfield 344, 3) := by decide +kernel
theorem dX9_count_84 : decode cX9_count 84 = .ok (.ireturn, 1) := by decide +kernel
theorem dX9_count_85 : decode cX9_count 85 = .ok (.aload_n 0, 1) := by decide +kernel
theorem dX9_count_86 : decode cX9_count 86 = .ok (.getfield 68, 3) := by decide +kernel
theorem dX9_count_89 : decode cX9_count 89 = .ok (.getfield 335, 3) := by decide +kernel
theorem dX9_count_92 : decode cX9_count 92 = .ok (.ireturn, 1) := by decide +kernel
theorem dX9_count_93 : decode cX9_count 93 = .ok (.aload_n 0, 1) := by decide +kernel
theorem dX9_count_94 : decode cX9_count 94 = .ok (.getfield 19, 3) := by decide +kernel
theorem dX9_count_97 : decode cX9_count 97 = .ok (.getfield 228, 3) := by decide +kernel
theorem dX9_count_100 : decode cX9_count 100 = .ok (.ireturn, 1) := by decide +kernel
theorem dX9_count_101 : decode cX9_count 101 = .ok (.aload_n 0, 1) := by decide +kernel
theorem dX9_count_102 : decode cX9_count 102 = .ok (.getfield 19, 3) := by decide +kernel
theorem dX9_count_105 : decode cX9_count 105 = .ok (.getfield 347, 3) := by decide +kernel
theorem dX9_count_108 : decode cX9_count 108 = .ok (.ireturn, 1) := by decide +kernel
theorem dX9_count_109 : decode cX9_count 109 = .ok (.iconst (-1), 1) := by decide +kernel
theorem dX9_count_110 : decode cX9_count 110 = .ok (.ireturn, 1) := by decide +kernel
theorem dX9_isWithin_0 : decode cX9_isWithin 0 = .ok (.iload_n 0, 1) := by decide +kernel
theorem dX9_isWithin_1 : decode cX9_isWithin 1 = .ok (.iload_n 1, 1) := by decide +kernel
theorem dX9_isWithin_2 : decode cX9_isWithin 2 = .ok (.if_icmp .lt 12, 3) := by decide +kernel
theorem dX9_isWithin_5 : decode cX9_isWithin 5 = .ok (.iload_n 0, 1) := by decide +kernel
theorem dX9_isWithin_6 : decode cX9_isWithin 6 = .ok (.iload_n 2, 1) := by decide +kernel
theorem dX9_isWithin_7 : decode cX9_isWithin 7 = .ok (.if_icmp .gt 7, 3) := by decide +kernel
theorem dX9_isWithin_10 : decode cX9_isWithin 10 = .ok (.iconst 1, 1) := by decide +kernel
theorem dX9_isWithin_11 : decode cX9_isWithin 11 = .ok (.goto 4, 3) := by decide +kernel
theorem dX9_isWithin_14 : decode cX9_isWithin 14 = .ok (.iconst 0, 1) := by decide +kernel
theorem dX9_isWithin_15 : decode cX9_isWithin 15 = .ok (.ireturn, 1) := by decide +kernel
set_option maxRecDepth 20000 in
theorem ggX9_isWeather_X9_isWithin : GoodIn wsX9_isWeather wsX9_isWithin := goodIn_r _ [4] (by decide +kernel) (by decide +kernel)
set_option maxRecDepth 20000 in
theorem gX9_isWeather_X9_isWithin : GoodIn wsX9_isWeather (va_wsS RX9 115 yX9_isWithin wsX9_isWithin) := goodIn_app (goodIn_of _ (by decide +kernel)) ggX9_isWeather_X9_isWithin
theorem dX9_isWeather_0 : decode cX9_isWeather 0 = .ok (.iload_n 0, 1) := by decide +kernel
theorem dX9_isWeather_1 : decode cX9_isWeather 1 = .ok (.iconst 0, 1) := by decide +kernel
theorem dX9_isWeather_2 : decode cX9_isWeather 2 = .ok (.bipush 9, 2) := by decide +kernel
theorem dX9_isWeather_4 : decode cX9_isWeather 4 = .ok (.invokestatic 115, 3) := by decide +kernel
theorem dX9_isWeather_7 : decode cX9_isWeather 7 = .ok (.ireturn, 1) := by decide +kernel
set_option maxRecDepth 20000 in
theorem ggX9_needAmount_X9_isWithin : GoodIn wsX9_needAmount wsX9_isWithin := goodIn_r _ [6] (by decide +kernel) (by decide +kernel)
set_option maxRecDepth 20000 in
theorem gX9_needAmount_X9_isWithin : GoodIn wsX9_needAmount (va_wsS RX9 115 yX9_isWithin wsX9_isWithin) := goodIn_app (goodIn_of _ (by decide +kernel)) ggX9_needAmount_X9_isWithin
theorem dX9_needAmount_0 : decode cX9_needAmount 0 = .ok (.iload_n 0, 1) := by decide +kernel
theorem dX9_needAmount_1 : decode cX9_needAmount 1 = .ok (.iconst 1, 1) := by decide +kernel
theorem dX9_needAmount_2 : decode cX9_needAmount 2 = .ok (.sipush 1000, 3) := by decide +kernel
theorem dX9_needAmount_5 : decode cX9_needAmount 5 = .ok (.invokestatic 115, 3) := by decide +kernel
theorem dX9_needAmount_8 : decode cX9_needAmount 8 = .ok (.ifCond .ne 14, 3) := by decide +kernel
theorem dX9_needAmount_11 : decode cX9_needAmount 11 = .ok (.new 90, 3) := by decide +kernel
theorem dX9_needAmount_14 : decode cX9_needAmount 14 = .ok (.dup, 1) := by decide +kernel
theorem dX9_needAmount_15 : decode cX9_needAmount 15 = .ok (.ldc_w 348, 3) := by decide +kernel
theorem dX9_needAmount_18 : decode cX9_needAmount 18 = .ok (.invokespecial 94, 3) := by decide +kernel
theorem dX9_needAmount_21 : decode cX9_needAmount 21 = .ok (.athrow, 1) := by decide +kernel
theorem dX9_needAmount_22 : decode cX9_needAmount 22 = .ok (.return_, 1) := by decide +kernel
theorem dX9_needShore_0 : decode cX9_needShore 0 = .ok (.iload_n 1, 1) := by decide +kernel
theorem dX9_needShore_1 : decode cX9_needShore 1 = .ok (.ifCond .lt 12, 3) := by decide +kernel
theorem dX9_needShore_4 : decode cX9_needShore 4 = .ok (.iload_n 1, 1) := by decide +kernel
theorem dX9_needShore_5 : decode cX9_needShore 5 = .ok (.aload_n 0, 1) := by decide +kernel
theorem dX9_needShore_6 : decode cX9_needShore 6 = .ok (.getfield 32, 3) := by decide +kernel
theorem dX9_needShore_9 : decode cX9_needShore 9 = .ok (.arraylength, 1) := by decide +kernel
theorem dX9_needShore_10 : decode cX9_needShore 10 = .ok (.if_icmp .lt 7, 3) := by decide +kernel
theorem dX9_needShore_13 : decode cX9_needShore 13 = .ok (.aconst_null, 1) := by decide +kernel
theorem dX9_needShore_14 : decode cX9_needShore 14 = .ok (.goto 9, 3) := by decide +kernel
theorem dX9_needShore_17 : decode cX9_needShore 17 = .ok (.aload_n 0, 1) := by decide +kernel
theorem dX9_needShore_18 : decode cX9_needShore 18 = .ok (.getfield 32, 3) := by decide +kernel
theorem dX9_needShore_21 : decode cX9_needShore 21 = .ok (.iload_n 1, 1) := by decide +kernel
theorem dX9_needShore_22 : decode cX9_needShore 22 = .ok (.aaload, 1) := by decide +kernel
theorem dX9_needShore_23 : decode cX9_needShore 23 = .ok (.astore_n 2, 1) := by decide +kernel
theorem dX9_needShore_24 : decode cX9_needShore 24 = .ok (.aload_n 2, 1) := by decide +kernel
theorem dX9_needShore_25 : decode cX9_needShore 25 = .ok (.ifnonnull 14, 3) := by decide +kernel
theorem dX9_needShore_28 : decode cX9_needShore 28 = .ok (.new 319, 3) := by decide +kernel
theorem dX9_needShore_31 : decode cX9_needShore 31 = .ok (.dup, 1) := by decide +kernel
theorem dX9_needShore_32 : decode cX9_needShore 32 = .ok (.ldc_w 350, 3) := by decide +kernel
theorem dX9_needShore_35 : decode cX9_needShore 35 = .ok (.invokespecial 323, 3) := by decide +kernel
theorem dX9_needShore_38 : decode cX9_needShore 38 = .ok (.athrow, 1) := by decide +kernel
theorem dX9_needShore_39 : decode cX9_needShore 39 = .ok (.aload_n 2, 1) := by decide +kernel
theorem dX9_needShore_40 : decode cX9_needShore 40 = .ok (.areturn, 1) := by decide +kernel
theorem dX9_needRock_0 : decode cX9_needRock 0 = .ok (.iload_n 1, 1) := by decide +kernel
theorem dX9_needRock_1 : decode cX9_needRock 1 = .ok (.ifCond .lt 12, 3) := by decide +kernel
theorem dX9_needRock_4 : decode cX9_needRock 4 = .ok (.iload_n 1, 1) := by decide +kernel
theorem dX9_needRock_5 : decode cX9_needRock 5 = .ok (.aload_n 0, 1) := by decide +kernel
theorem dX9_needRock_6 : decode cX9_needRock 6 = .ok (.getfield 124, 3) := by decide +kernel
theorem dX9_needRock_9 : decode cX9_needRock 9 = .ok (.arraylength, 1) := by decide +kernel
theorem dX9_needRock_10 : decode cX9_needRock 10 = .ok (.if_icmp .lt 7, 3) := by decide +kernel
theorem dX9_needRock_13 : decode cX9_needRock 13 = .ok (.aconst_null, 1) := by decide +kernel
theorem dX9_needRock_14 : decode cX9_needRock 14 = .ok (.goto 9, 3) := by decide +kernel
theorem dX9_needRock_17 : decode cX9_needRock 17 = .ok (.aload_n 0, 1) := by decide +kernel
theorem dX9_needRock_18 : decode cX9_needRock 18 = .ok (.getfield 124, 3) := by decide +kernel
theorem dX9_needRock_21 : decode cX9_needRock 21 = .ok (.iload_n 1, 1) := by decide +kernel
theorem dX9_needRock_22 : decode cX9_needRock 22 = .ok (.aaload, 1) := by decide +kernel
theorem dX9_needRock_23 : decode cX9_needRock 23 = .ok (.astore_n 2, 1) := by decide +kernel
theorem dX9_needRock_24 : decode cX9_needRock 24 = .ok (.aload_n 2, 1) := by decide +kernel
theorem dX9_needRock_25 : decode cX9_needRock 25 = .ok (.ifnonnull 14, 3) := by decide +kernel
theorem dX9_needRock_28 : decode cX9_needRock 28 = .ok (.new 319, 3) := by decide +kernel
theorem dX9_needRock_31 : decode cX9_needRock 31 = .ok (.dup, 1) := by decide +kernel
theorem dX9_needRock_32 : decode cX9_needRock 32 = .ok (.ldc_w 352, 3) := by decide +kernel
theorem dX9_needRock_35 : decode cX9_needRock 35 = .ok (.invokespecial 323, 3) := by decide +kernel
theorem dX9_needRock_38 : decode cX9_needRock 38 = .ok (.athrow, 1) := by decide +kernel
theorem dX9_needRock_39 : decode cX9_needRock 39 = .ok (.aload_n 2, 1) := by decide +kernel
theorem dX9_needRock_40 : decode cX9_needRock 40 = .ok (.areturn, 1) := by decide +kernel
theorem dX9_needFamily_0 : decode cX9_needFamily 0 = .ok (.iload_n 1, 1) := by decide +kernel
theorem dX9_needFamily_1 : decode cX9_needFamily 1 = .ok (.ifCond .lt 12, 3) := by decide +kernel
theorem dX9_needFamily_4 : decode cX9_needFamily 4 = .ok (.iload_n 1, 1) := by decide +kernel
theorem dX9_needFamily_5 : decode cX9_needFamily 5 = .ok (.aload_n 0, 1) := by decide +kernel
theorem dX9_needFamily_6 : decode cX9_needFamily 6 = .ok (.getfield 38, 3) := by decide +kernel
theorem dX9_needFamily_9 : decode cX9_needFamily 9 = .ok (.arraylength, 1) := by decide +kernel
theorem dX9_needFamily_10 : decode cX9_needFamily 10 = .ok (.if_icmp .lt 7, 3) := by decide +kernel
theorem dX9_needFamily_13 : decode cX9_needFamily 13 = .ok (.aconst_null, 1) := by decide +kernel
theorem dX9_needFamily_14 : decode cX9_needFamily 14 = .ok (.goto 9, 3) := by decide +kernel
theorem dX9_needFamily_17 : decode cX9_needFamily 17 = .ok (.aload_n 0, 1) := by decide +kernel
theorem dX9_needFamily_18 : decode cX9_needFamily 18 = .ok (.getfield 38, 3) := by decide +kernel
theorem dX9_needFamily_21 : decode cX9_needFamily 21 = .ok (.iload_n 1, 1) := by decide +kernel
theorem dX9_needFamily_22 : decode cX9_needFamily 22 = .ok (.aaload, 1) := by decide +kernel
theorem dX9_needFamily_23 : decode cX9_needFamily 23 = .ok (.astore_n 2, 1) := by decide +kernel
theorem dX9_needFamily_24 : decode cX9_needFamily 24 = .ok (.aload_n 2, 1) := by decide +kernel
theorem dX9_needFamily_25 : decode cX9_needFamily 25 = .ok (.ifnonnull 14, 3) := by decide +kernel
theorem dX9_needFamily_28 : decode cX9_needFamily 28 = .ok (.new 319, 3) := by decide +kernel
theorem dX9_needFamily_31 : decode cX9_needFamily 31 = .ok (.dup, 1) := by decide +kernel
theorem dX9_needFamily_32 : decode cX9_needFamily 32 = .ok (.ldc_w 354, 3) := by decide +kernel
theorem dX9_needFamily_35 : decode cX9_needFamily 35 = .ok (.invokespecial 323, 3) := by decide +kernel
theorem dX9_needFamily_38 : decode cX9_needFamily 38 = .ok (.athrow, 1) := by decide +kernel
theorem dX9_needFamily_39 : decode cX9_needFamily 39 = .ok (.aload_n 2, 1) := by decide +kernel
theorem dX9_needFamily_40 : decode cX9_needFamily 40 = .ok (.areturn, 1) := by decide +kernel
theorem dX9_needPit_0 : decode cX9_needPit 0 = .ok (.iload_n 1, 1) := by decide +kernel
theorem dX9_needPit_1 : decode cX9_needPit 1 = .ok (.ifCond .lt 12, 3) := by decide +kernel
theorem dX9_needPit_4 : decode cX9_needPit 4 = .ok (.iload_n 1, 1) := by decide +kernel
theorem dX9_needPit_5 : decode cX9_needPit 5 = .ok (.aload_n 0, 1) := by decide +kernel
theorem dX9_needPit_6 : decode cX9_needPit 6 = .ok (.getfield 44, 3) := by decide +kernel
theorem dX9_needPit_9 : decode cX9_needPit 9 = .ok (.arraylength, 1) := by decide +kernel
theorem dX9_needPit_10 : decode cX9_needPit 10 = .ok (.if_icmp .lt 7, 3) := by decide +kernel
theorem dX9_needPit_13 : decode cX9_needPit 13 = .ok (.aconst_null, 1) := by decide +kernel
theorem dX9_needPit_14 : decode cX9_needPit 14 = .ok (.goto 9, 3) := by decide +kernel
theorem dX9_needPit_17 : decode cX9_needPit 17 = .ok (.aload_n 0, 1) := by decide +kernel
theorem dX9_needPit_18 : decode cX9_needPit 18 = .ok (.getfield 44, 3) := by decide +kernel
theorem dX9_needPit_21 : decode cX9_needPit 21 = .ok (.iload_n 1, 1) := by decide +kernel
theorem dX9_needPit_22 : decode cX9_needPit 22 = .ok (.aaload, 1) := by decide +kernel
theorem dX9_needPit_23 : decode cX9_needPit 23 = .ok (.astore_n 2, 1) := by decide +kernel
theorem dX9_needPit_24 : decode cX9_needPit 24 = .ok (.aload_n 2, 1) := by decide +kernel
theorem dX9_needPit_25 : decode cX9_needPit 25 = .ok (.ifnonnull 14, 3) := by decide +kernel
theorem dX9_needPit_28 : decode cX9_needPit 28 = .ok (.new 319, 3) := by decide +kernel
theorem dX9_needPit_31 : decode cX9_needPit 31 = .ok (.dup, 1) := by decide +kernel
theorem dX9_needPit_32 : decode cX9_needPit 32 = .ok (.ldc_w 356, 3) := by decide +kernel
theorem dX9_needPit_35 : decode cX9_needPit 35 = .ok (.invokespecial 323, 3) := by decide +kernel
theorem dX9_needPit_38 : decode cX9_needPit 38 = .ok (.athrow, 1) := by decide +kernel
theorem dX9_needPit_39 : decode cX9_needPit 39 = .ok (.aload_n 2, 1) := by decide +kernel
theorem dX9_needPit_40 : decode cX9_needPit 40 = .ok (.areturn, 1) := by decide +kernel
theorem dX9_needLot_0 : decode cX9_needLot 0 = .ok (.iload_n 1, 1) := by decide +kernel
theorem dX9_needLot_1 : decode cX9_needLot 1 = .ok (.ifCond .lt 12, 3) := by decide +kernel
theorem dX9_needLot_4 : decode cX9_needLot 4 = .ok (.iload_n 1, 1) := by decide +kernel
theorem dX9_needLot_5 : decode cX9_needLot 5 = .ok (.aload_n 0, 1) := by decide +kernel
theorem dX9_needLot_6 : decode cX9_needLot 6 = .ok (.getfield 50, 3) := by decide +kernel
theorem dX9_needLot_9 : decode cX9_needLot 9 = .ok (.arraylength, 1) := by decide +kernel
theorem dX9_needLot_10 : decode cX9_needLot 10 = .ok (.if_icmp .lt 7, 3) := by decide +kernel
theorem dX9_needLot_13 : decode cX9_needLot 13 = .ok (.aconst_null, 1) := by decide +kernel
theorem dX9_needLot_14 : decode cX9_needLot 14 = .ok (.goto 9, 3) := by decide +kernel
theorem dX9_needLot_17 : decode cX9_needLot 17 = .ok (.aload_n 0, 1) := by decide +kernel
theorem dX9_needLot_18 : decode cX9_needLot 18 = .ok (.getfield 50, 3) := by decide +kernel
theorem dX9_needLot_21 : decode cX9_needLot 21 = .ok (.iload_n 1, 1) := by decide +kernel
theorem dX9_needLot_22 : decode cX9_needLot 22 = .ok (.aaload, 1) := by decide +kernel
theorem dX9_needLot_23 : decode cX9_needLot 23 = .ok (.astore_n 2, 1) := by decide +kernel
theorem dX9_needLot_24 : decode cX9_needLot 24 = .ok (.aload_n 2, 1) := by decide +kernel
theorem dX9_needLot_25 : decode cX9_needLot 25 = .ok (.ifnonnull 14, 3) := by decide +kernel
theorem dX9_needLot_28 : decode cX9_needLot 28 = .ok (.new 319, 3) := by decide +kernel
theorem dX9_needLot_31 : decode cX9_needLot 31 = .ok (.dup, 1) := by decide +kernel
theorem dX9_needLot_32 : decode cX9_needLot 32 = .ok (.ldc_w 358, 3) := by decide +kernel
theorem dX9_needLot_35 : decode cX9_needLot 35 = .ok (.invokespecial 323, 3) := by decide +kernel
theorem dX9_needLot_38 : decode cX9_needLot 38 = .ok (.athrow, 1) := by decide +kernel
theorem dX9_needLot_39 : decode cX9_needLot 39 = .ok (.aload_n 2, 1) := by decide +kernel
theorem dX9_needLot_40 : decode cX9_needLot 40 = .ok (.areturn, 1) := by decide +kernel
set_option maxRecDepth 20000 in
theorem ggX9_passOverShores_X6_passDay : GoodIn wsX9_passOverShores wsX6_passDay := goodIn_r _ [7, 8, 9, 10, 11, 12, 13, 14, 15, 16, 17, 18, 19, 20, 21, 22, 23, 40, 41, 42, 43, 44, 45, 46, 47, 48, 49, 50, 51] (by decide +kernel) (by decide +kernel)
set_option maxRecDepth 20000 in
theorem gX9_passOverShores_X6_passDay : GoodIn wsX9_passOverShores (wsV RX9 360 RX6 yX6_passDay wsX6_passDay) := goodIn_app (goodIn_of _ (by decide +kernel)) ggX9_passOverShores_X6_passDay
theorem dX9_passOverShores_0 : decode cX9_passOverShores 0 = .ok (.aload_n 0, 1) := by decide +kernel
theorem dX9_passOverShores_1 : decode cX9_passOverShores 1 = .ok (.getfield 202, 3) := by decide +kernel
theorem dX9_passOverShores_4 : decode cX9_passOverShores 4 = .ok (.bipush 100, 2) := by decide +kernel
theorem dX9_passOverShores_6 : decode cX9_passOverShores 6 = .ok (.irem, 1) := by decide +kernel
theorem dX9_passOverShores_7 : decode cX9_passOverShores 7 = .ok (.ifCond .ne 7, 3) := by decide +kernel
theorem dX9_passOverShores_10 : decode cX9_passOverShores 10 = .ok (.iconst 1, 1) := by decide +kernel
theorem dX9_passOverShores_11 : decode cX9_passOverShores 11 = .ok (.goto 4, 3) := by decide +kernel
theorem dX9_passOverShores_14 : decode cX9_passOverShores 14 = .ok (.iconst 0, 1) := by decide +kernel
theorem dX9_passOverShores_15 : decode cX9_passOverShores 15 = .ok (.istore_n 2, 1) := by decide +kernel
theorem dX9_passOverShores_16 : decode cX9_passOverShores 16 = .ok (.aload_n 0, 1) := by decide +kernel
theorem dX9_passOverShores_17 : decode cX9_passOverShores 17 = .ok (.getfield 32, 3) := by decide +kernel
theorem dX9_passOverShores_20 : decode cX9_passOverShores 20 = .ok (.astore_n 3, 1) := by decide +kernel
theorem dX9_passOverShores_21 : decode cX9_passOverShores 21 = .ok (.aload_n 3, 1) := by decide +kernel
theorem dX9_passOverShores_22 : decode cX9_passOverShores 22 = .ok (.arraylength, 1) := by decide +kernel
theorem dX9_passOverShores_23 : decode cX9_passOverShores 23 = .ok (.istore 4, 2) := by decide +kernel
theorem dX9_passOverShores_25 : decode cX9_passOverShores 25 = .ok (.iconst 0, 1) := by decide +kernel
theorem dX9_passOverShores_26 : decode cX9_passOverShores 26 = .ok (.istore 5, 2) := by decide +kernel
theorem dX9_passOverShores_28 : decode cX9_passOverShores 28 = .ok (.iload 5, 2) := by decide +kernel
theorem dX9_passOverShores_30 : decode cX9_passOverShores 30 = .ok (.iload 4, 2) := by decide +kernel
theorem dX9_passOverShores_32 : decode cX9_passOverShores 32 = .ok (.if_icmp .ge 27, 3) := by decide +kernel
theorem dX9_passOverShores_35 : decode cX9_passOverShores 35 = .ok (.aload_n 3, 1) := by decide +kernel
theorem dX9_passOverShores_36 : decode cX9_passOverShores 36 = .ok (.iload 5, 2) := by decide +kernel
theorem dX9_passOverShores_38 : decode cX9_passOverShores 38 = .ok (.aaload, 1) := by decide +kernel
theorem dX9_passOverShores_39 : decode cX9_passOverShores 39 = .ok (.astore 6, 2) := by decide +kernel
theorem dX9_passOverShores_41 : decode cX9_passOverShores 41 = .ok (.aload 6, 2) := by decide +kernel
theorem dX9_passOverShores_43 : decode cX9_passOverShores 43 = .ok (.ifnull 10, 3) := by decide +kernel
theorem dX9_passOverShores_46 : decode cX9_passOverShores 46 = .ok (.aload 6, 2) := by decide +kernel
theorem dX9_passOverShores_48 : decode cX9_passOverShores 48 = .ok (.iload_n 2, 1) := by decide +kernel
theorem dX9_passOverShores_49 : decode cX9_passOverShores 49 = .ok (.iload_n 1, 1) := by decide +kernel
theorem dX9_passOverShores_50 : decode cX9_passOverShores 50 = .ok (.invokevirtual 360, 3) := by decide +kernel
theorem dX9_passOverShores_53 : decode cX9_passOverShores 53 = .ok (.iinc 5 1, 3) := by decide +kernel
theorem dX9_passOverShores_56 : decode cX9_passOverShores 56 = .ok (.goto (-28), 3) := by decide +kernel
theorem dX9_passOverShores_59 : decode cX9_passOverShores 59 = .ok (.return_, 1) := by decide +kernel
set_option maxRecDepth 20000 in
theorem ggX9_passOverFamilies_X0_spoilDry : GoodIn wsX9_passOverFamilies wsX0_spoilDry := goodIn_r _ [6, 7, 8, 30, 31, 32, 33, 34, 35, 36, 37] (by decide +kernel) (by decide +kernel)
set_option maxRecDepth 20000 in
theorem gX9_passOverFamilies_X0_spoilDry : GoodIn wsX9_passOverFamilies (wsV RX9 364 RX0 yX0_spoilDry wsX0_spoilDry) := goodIn_app (goodIn_of _ (by decide +kernel)) ggX9_passOverFamilies_X0_spoilDry
set_option maxRecDepth 20000 in
theorem ggX9_passOverFamilies_X0_dryWet : GoodIn wsX9_passOverFamilies wsX0_dryWet := goodIn_r _ [12, 13, 7, 30, 31, 32, 33, 34, 35, 36, 37] (by decide +kernel) (by decide +kernel)
set_option maxRecDepth 20000 in
theorem gX9_passOverFamilies_X0_dryWet : GoodIn wsX9_passOverFamilies (wsV RX9 367 RX0 yX0_dryWet wsX0_dryWet) := goodIn_app (goodIn_of _ (by decide +kernel)) ggX9_passOverFamilies_X0_dryWet
theorem dX9_passOverFamilies_0 : decode cX9_passOverFamilies 0 = .ok (.aload_n 0, 1) := by decide +kernel
theorem dX9_passOverFamilies_1 : decode cX9_passOverFamilies 1 = .ok (.getfield 38, 3) := by decide +kernel
theorem dX9_passOverFamilies_4 : decode cX9_passOverFamilies 4 = .ok (.astore_n 3, 1) := by decide +kernel
theorem dX9_passOverFamilies_5 : decode cX9_passOverFamilies 5 = .ok (.aload_n 3, 1) := by decide +kernel
theorem dX9_passOverFamilies_6 : decode cX9_passOverFamilies 6 = .ok (.arraylength, 1) := by decide +kernel
theorem dX9_passOverFamilies_7 : decode cX9_passOverFamilies 7 = .ok (.istore 4, 2) := by decide +kernel
theorem dX9_passOverFamilies_9 : decode cX9_passOverFamilies 9 = .ok (.iconst 0, 1) := by decide +kernel
theorem dX9_passOverFamilies_10 : decode cX9_passOverFamilies 10 = .ok (.istore 5, 2) := by decide +kernel
theorem dX9_passOverFamilies_12 : decode cX9_passOverFamilies 12 = .ok (.iload 5, 2) := by decide +kernel
theorem dX9_passOverFamilies_14 : decode cX9_passOverFamilies 14 = .ok (.iload 4, 2) := by decide +kernel
theorem dX9_passOverFamilies_16 : decode cX9_passOverFamilies 16 = .ok (.if_icmp .ge 35, 3) := by decide +kernel
theorem dX9_passOverFamilies_19 : decode cX9_passOverFamilies 19 = .ok (.aload_n 3, 1) := by decide +kernel
theorem dX9_passOverFamilies_20 : decode cX9_passOverFamilies 20 = .ok (.iload 5, 2) := by decide +kernel
theorem dX9_passOverFamilies_22 : decode cX9_passOverFamilies 22 = .ok (.aaload, 1) := by decide +kernel
theorem dX9_passOverFamilies_23 : decode cX9_passOverFamilies 23 = .ok (.astore 6, 2) := by decide +kernel
theorem dX9_passOverFamilies_25 : decode cX9_passOverFamilies 25 = .ok (.iload_n 2, 1) := by decide +kernel
theorem dX9_passOverFamilies_26 : decode cX9_passOverFamilies 26 = .ok (.iconst 5, 1) := by decide +kernel
theorem dX9_passOverFamilies_27 : decode cX9_passOverFamilies 27 = .ok (.if_icmp .lt 8, 3) := by decide +kernel
theorem dX9_passOverFamilies_30 : decode cX9_passOverFamilies 30 = .ok (.aload 6, 2) := by decide +kernel
theorem dX9_passOverFamilies_32 : decode cX9_passOverFamilies 32 = .ok (.invokevirtual 364, 3) := by decide +kernel
theorem dX9_passOverFamilies_35 : decode cX9_passOverFamilies 35 = .ok (.iload_n 2, 1) := by decide +kernel
theorem dX9_passOverFamilies_36 : decode cX9_passOverFamilies 36 = .ok (.ifCond .ne 9, 3) := by decide +kernel
theorem dX9_passOverFamilies_39 : decode cX9_passOverFamilies 39 = .ok (.aload 6, 2) := by decide +kernel
theorem dX9_passOverFamilies_41 : decode cX9_passOverFamilies 41 = .ok (.iload_n 1, 1) := by decide +kernel
theorem dX9_passOverFamilies_42 : decode cX9_passOverFamilies 42 = .ok (.invokevirtual 367, 3) := by decide +kernel
theorem dX9_passOverFamilies_45 : decode cX9_passOverFamilies 45 = .ok (.iinc 5 1, 3) := by decide +kernel
theorem dX9_passOverFamilies_48 : decode cX9_passOverFamilies 48 = .ok (.goto (-36), 3) := by decide +kernel
theorem dX9_passOverFamilies_51 : decode cX9_passOverFamilies 51 = .ok (.return_, 1) := by decide +kernel
set_option maxRecDepth 20000 in
theorem ggX9_passOverPits_X3_passDay : GoodIn wsX9_passOverPits wsX3_passDay := goodIn_r _ [6, 7, 8, 9, 26, 27, 28, 29, 30, 31, 32, 33, 34, 35, 36] (by decide +kernel) (by decide +kernel)
set_option maxRecDepth 20000 in
theorem gX9_passOverPits_X3_passDay : GoodIn wsX9_passOverPits (wsV RX9 370 RX3 yX3_passDay wsX3_passDay) := goodIn_app (goodIn_of _ (by decide +kernel)) ggX9_passOverPits_X3_passDay
theorem dX9_passOverPits_0 : decode cX9_passOverPits 0 = .ok (.aload_n 0, 1) := by decide +kernel
theorem dX9_passOverPits_1 : decode cX9_passOverPits 1 = .ok (.getfield 44, 3) := by decide +kernel
theorem dX9_passOverPits_4 : decode cX9_passOverPits 4 = .ok (.astore_n 2, 1) := by decide +kernel
theorem dX9_passOverPits_5 : decode cX9_passOverPits 5 = .ok (.aload_n 2, 1) := by decide +kernel
theorem dX9_passOverPits_6 : decode cX9_passOverPits 6 = .ok (.arraylength, 1) := by decide +kernel
theorem dX9_passOverPits_7 : decode cX9_passOverPits 7 = .ok (.istore_n 3, 1) := by decide +kernel
theorem dX9_passOverPits_8 : decode cX9_passOverPits 8 = .ok (.iconst 0, 1) := by decide +kernel
theorem dX9_passOverPits_9 : decode cX9_passOverPits 9 = .ok (.istore 4, 2) := by decide +kernel
theorem dX9_passOverPits_11 : decode cX9_passOverPits 11 = .ok (.iload 4, 2) := by decide +kernel
theorem dX9_passOverPits_13 : decode cX9_passOverPits 13 = .ok (.iload_n 3, 1) := by decide +kernel
theorem dX9_passOverPits_14 : decode cX9_passOverPits 14 = .ok (.if_icmp .ge 34, 3) := by decide +kernel
theorem dX9_passOverPits_17 : decode cX9_passOverPits 17 = .ok (.aload_n 2, 1) := by decide +kernel
theorem dX9_passOverPits_18 : decode cX9_passOverPits 18 = .ok (.iload 4, 2) := by decide +kernel
theorem dX9_passOverPits_20 : decode cX9_passOverPits 20 = .ok (.aaload, 1) := by decide +kernel
theorem dX9_passOverPits_21 : decode cX9_passOverPits 21 = .ok (.astore 5, 2) := by decide +kernel
theorem dX9_passOverPits_23 : decode cX9_passOverPits 23 = .ok (.aload 5, 2) := by decide +kernel
theorem dX9_passOverPits_25 : decode cX9_passOverPits 25 = .ok (.ifnull 17, 3) := by decide +kernel
theorem dX9_passOverPits_28 : decode cX9_passOverPits 28 = .ok (.aload 5, 2) := by decide +kernel
theorem dX9_passOverPits_30 : decode cX9_passOverPits 30 = .ok (.getfield 260, 3) := by decide +kernel
theorem dX9_passOverPits_33 : decode cX9_passOverPits 33 = .ok (.ifCond .le 9, 3) := by decide +kernel
theorem dX9_passOverPits_36 : decode cX9_passOverPits 36 = .ok (.aload 5, 2) := by decide +kernel
theorem dX9_passOverPits_38 : decode cX9_passOverPits 38 = .ok (.iload_n 1, 1) := by decide +kernel
theorem dX9_passOverPits_39 : decode cX9_passOverPits 39 = .ok (.invokevirtual 370, 3) := by decide +kernel
theorem dX9_passOverPits_42 : decode cX9_passOverPits 42 = .ok (.iinc 4 1, 3) := by decide +kernel
theorem dX9_passOverPits_45 : decode cX9_passOverPits 45 = .ok (.goto (-34), 3) := by decide +kernel
theorem dX9_passOverPits_48 : decode cX9_passOverPits 48 = .ok (.return_, 1) := by decide +kernel
theorem dX9_burningPits_0 : decode cX9_burningPits 0 = .ok (.iconst 0, 1) := by decide +kernel
theorem dX9_burningPits_1 : decode cX9_burningPits 1 = .ok (.istore_n 1, 1) := by decide +kernel
theorem dX9_burningPits_2 : decode cX9_burningPits 2 = .ok (.aload_n 0, 1) := by decide +kernel
theorem dX9_burningPits_3 : decode cX9_burningPits 3 = .ok (.getfield 44, 3) := by decide +kernel
theorem dX9_burningPits_6 : decode cX9_burningPits 6 = .ok (.astore_n 2, 1) := by decide +kernel
theorem dX9_burningPits_7 : decode cX9_burningPits 7 = .ok (.aload_n 2, 1) := by decide +kernel
theorem dX9_burningPits_8 : decode cX9_burningPits 8 = .ok (.arraylength, 1) := by decide +kernel
theorem dX9_burningPits_9 : decode cX9_burningPits 9 = .ok (.istore_n 3, 1) := by decide +kernel
theorem dX9_burningPits_10 : decode cX9_burningPits 10 = .ok (.iconst 0, 1) := by decide +kernel
theorem dX9_burningPits_11 : decode cX9_burningPits 11 = .ok (.istore 4, 2) := by decide +kernel
theorem dX9_burningPits_13 : decode cX9_burningPits 13 = .ok (.iload 4, 2) := by decide +kernel
theorem dX9_burningPits_15 : decode cX9_burningPits 15 = .ok (.iload_n 3, 1) := by decide +kernel
theorem dX9_burningPits_16 : decode cX9_burningPits 16 = .ok (.if_icmp .ge 31, 3) := by decide +kernel
theorem dX9_burningPits_19 : decode cX9_burningPits 19 = .ok (.aload_n 2, 1) := by decide +kernel
theorem dX9_burningPits_20 : decode cX9_burningPits 20 = .ok (.iload 4, 2) := by decide +kernel
theorem dX9_burningPits_22 : decode cX9_burningPits 22 = .ok (.aaload, 1) := by decide +kernel
theorem dX9_burningPits_23 : decode cX9_burningPits 23 = .ok (.astore 5, 2) := by decide +kernel
theorem dX9_burningPits_25 : decode cX9_burningPits 25 = .ok (.aload 5, 2) := by decide +kernel
theorem dX9_burningPits_27 : decode cX9_burningPits 27 = .ok (.ifnull 14, 3) := by decide +kernel
theorem dX9_burningPits_30 : decode cX9_burningPits 30 = .ok (.aload 5, 2) := by decide +kernel
theorem dX9_burningPits_32 : decode cX9_burningPits 32 = .ok (.getfield 260, 3) := by decide +kernel
theorem dX9_burningPits_35 : decode cX9_burningPits 35 = .ok (.ifCond .le 6, 3) := by decide +kernel
theorem dX9_burningPits_38 : decode cX9_burningPits 38 = .ok (.iinc 1 1, 3) := by decide +kernel
theorem dX9_burningPits_41 : decode cX9_burningPits 41 = .ok (.iinc 4 1, 3) := by decide +kernel
theorem dX9_burningPits_44 : decode cX9_burningPits 44 = .ok (.goto (-31), 3) := by decide +kernel
theorem dX9_burningPits_47 : decode cX9_burningPits 47 = .ok (.iload_n 1, 1) := by decide +kernel
theorem dX9_burningPits_48 : decode cX9_burningPits 48 = .ok (.ireturn, 1) := by decide +kernel
set_option maxRecDepth 20000 in
theorem ggX9_againstTaking_X0_workLeft : GoodIn wsX9_againstTaking wsX0_workLeft := goodIn_r _ [5, 6, 7, 8, 9, 10, 11, 12, 13, 14, 15, 16, 17, 18, 19] (by decide +kernel) (by decide +kernel)
set_option maxRecDepth 20000 in
theorem gX9_againstTaking_X0_workLeft : GoodIn wsX9_againstTaking (wsV RX9 180 RX0 yX0_workLeft wsX0_workLeft) := goodIn_app (goodIn_of _ (by decide +kernel)) ggX9_againstTaking_X0_workLeft
theorem dX9_againstTaking_0 : decode cX9_againstTaking 0 = .ok (.iload_n 0, 1) := by decide +kernel
theorem dX9_againstTaking_1 : decode cX9_againstTaking 1 = .ok (.iload_n 1, 1) := by decide +kernel
theorem dX9_againstTaking_2 : decode cX9_againstTaking 2 = .ok (.if_icmp .le 5, 3) := by decide +kernel
theorem dX9_againstTaking_5 : decode cX9_againstTaking 5 = .ok (.iconst 4, 1) := by decide +kernel
theorem dX9_againstTaking_6 : decode cX9_againstTaking 6 = .ok (.ireturn, 1) := by decide +kernel
theorem dX9_againstTaking_7 : decode cX9_againstTaking 7 = .ok (.iload_n 0, 1) := by decide +kernel
theorem dX9_againstTaking_8 : decode cX9_againstTaking 8 = .ok (.aload_n 2, 1) := by decide +kernel
theorem dX9_againstTaking_9 : decode cX9_againstTaking 9 = .ok (.invokevirtual 180, 3) := by decide +kernel
theorem dX9_againstTaking_12 : decode cX9_againstTaking 12 = .ok (.if_icmp .le 7, 3) := by decide +kernel
theorem dX9_againstTaking_15 : decode cX9_againstTaking 15 = .ok (.iconst 5, 1) := by decide +kernel
theorem dX9_againstTaking_16 : decode cX9_againstTaking 16 = .ok (.goto 4, 3) := by decide +kernel
theorem dX9_againstTaking_19 : decode cX9_againstTaking 19 = .ok (.iconst 0, 1) := by decide +kernel
theorem dX9_againstTaking_20 : decode cX9_againstTaking 20 = .ok (.ireturn, 1) := by decide +kernel
set_option maxRecDepth 20000 in
theorem ggX9_takeHome_X4_shareOf : GoodIn wsX9_takeHome wsX4_shareOf := goodIn_r _ [7, 8, 45, 46, 47, 48, 49, 50, 51] (by decide +kernel) (by decide +kernel)
set_option maxRecDepth 20000 in
theorem gX9_takeHome_X4_shareOf : GoodIn wsX9_takeHome (wsV RX9 372 RX4 yX4_shareOf wsX4_shareOf) := goodIn_app (goodIn_of _ (by decide +kernel)) ggX9_takeHome_X4_shareOf
set_option maxRecDepth 20000 in
theorem ggX9_takeHome_X0_owe : GoodIn wsX9_takeHome wsX0_owe := goodIn_r _ [13, 14, 15, 16, 12, 17, 18, 19, 20, 21, 22, 23, 24, 25, 26, 27, 28] (by decide +kernel) (by decide +kernel)
set_option maxRecDepth 20000 in
theorem gX9_takeHome_X0_owe : GoodIn wsX9_takeHome (wsV RX9 376 RX0 yX0_owe wsX0_owe) := goodIn_app (goodIn_of _ (by decide +kernel)) ggX9_takeHome_X0_owe
theorem dX9_takeHome_0 : decode cX9_takeHome 0 = .ok (.aload_n 1, 1) := by decide +kernel
theorem dX9_takeHome_1 : decode cX9_takeHome 1 = .ok (.dup, 1) := by decide +kernel
theorem dX9_takeHome_2 : decode cX9_takeHome 2 = .ok (.getfield 171, 3) := by decide +kernel
theorem dX9_takeHome_5 : decode cX9_takeHome 5 = .ok (.iload 4, 2) := by decide +kernel
theorem dX9_takeHome_7 : decode cX9_takeHome 7 = .ok (.iadd, 1) := by decide +kernel
theorem dX9_takeHome_8 : decode cX9_takeHome 8 = .ok (.putfield 171, 3) := by decide +kernel
theorem dX9_takeHome_11 : decode cX9_takeHome 11 = .ok (.aload_n 1, 1) := by decide +kernel
theorem dX9_takeHome_12 : decode cX9_takeHome 12 = .ok (.dup, 1) := by decide +kernel
theorem dX9_takeHome_13 : decode cX9_takeHome 13 = .ok (.getfield 219, 3) := by decide +kernel
theorem dX9_takeHome_16 : decode cX9_takeHome 16 = .ok (.iload 4, 2) := by decide +kernel
theorem dX9_takeHome_18 : decode cX9_takeHome 18 = .ok (.iadd, 1) := by decide +kernel
theorem dX9_takeHome_19 : decode cX9_takeHome 19 = .ok (.putfield 219, 3) := by decide +kernel
theorem dX9_takeHome_22 : decode cX9_takeHome 22 = .ok (.aload_n 1, 1) := by decide +kernel
theorem dX9_takeHome_23 : decode cX9_takeHome 23 = .ok (.iload_n 2, 1) := by decide +kernel
theorem dX9_takeHome_24 : decode cX9_takeHome 24 = .ok (.aload_n 0, 1) := by decide +kernel
theorem dX9_takeHome_25 : decode cX9_takeHome 25 = .ok (.getfield 202, 3) := by decide +kernel
theorem dX9_takeHome_28 : decode cX9_takeHome 28 = .ok (.bipush 100, 2) := by decide +kernel
theorem dX9_takeHome_30 : decode cX9_takeHome 30 = .ok (.idiv, 1) := by decide +kernel
theorem dX9_takeHome_31 : decode cX9_takeHome 31 = .ok (.iload 4, 2) := by decide +kernel
theorem dX9_takeHome_33 : decode cX9_takeHome 33 = .ok (.aload_n 0, 1) := by decide +kernel
theorem dX9_takeHome_34 : decode cX9_takeHome 34 = .ok (.getfield 19, 3) := by decide +kernel
theorem dX9_takeHome_37 : decode cX9_takeHome 37 = .ok (.iload_n 3, 1) := by decide +kernel
theorem dX9_takeHome_38 : decode cX9_takeHome 38 = .ok (.invokevirtual 372, 3) := by decide +kernel
theorem dX9_takeHome_41 : decode cX9_takeHome 41 = .ok (.imul, 1) := by decide +kernel
theorem dX9_takeHome_42 : decode cX9_takeHome 42 = .ok (.bipush 100, 2) := by decide +kernel
theorem dX9_takeHome_44 : decode cX9_takeHome 44 = .ok (.idiv, 1) := by decide +kernel
theorem dX9_takeHome_45 : decode cX9_takeHome 45 = .ok (.invokevirtual 376, 3) := by decide +kernel
theorem dX9_takeHome_48 : decode cX9_takeHome 48 = .ok (.return_, 1) := by decide +kernel
set_option maxRecDepth 20000 in
theorem ggX9_needTests_X9_isWithin : GoodIn wsX9_needTests wsX9_isWithin := goodIn_r _ [7] (by decide +kernel) (by decide +kernel)
set_option maxRecDepth 20000 in
theorem gX9_needTests_X9_isWithin : GoodIn wsX9_needTests (va_wsS RX9 115 yX9_isWithin wsX9_isWithin) := goodIn_app (goodIn_of _ (by decide +kernel)) ggX9_needTests_X9_isWithin
theorem dX9_needTests_0 : decode cX9_needTests 0 = .ok (.iload_n 1, 1) := by decide +kernel
theorem dX9_needTests_1 : decode cX9_needTests 1 = .ok (.iconst 3, 1) := by decide +kernel
theorem dX9_needTests_2 : decode cX9_needTests 2 = .ok (.iconst 5, 1) := by decide +kernel
theorem dX9_needTests_3 : decode cX9_needTests 3 = .ok (.invokestatic 115, 3) := by decide +kernel
theorem dX9_needTests_6 : decode cX9_needTests 6 = .ok (.istore_n 2, 1) := by decide +kernel
theorem dX9_needTests_7 : decode cX9_needTests 7 = .ok (.iconst 0, 1) := by decide +kernel
theorem dX9_needTests_8 : decode cX9_needTests 8 = .ok (.istore_n 3, 1) := by decide +kernel
theorem dX9_needTests_9 : decode cX9_needTests 9 = .ok (.iload_n 3, 1) := by decide +kernel
theorem dX9_needTests_10 : decode cX9_needTests 10 = .ok (.aload_n 0, 1) := by decide +kernel
theorem dX9_needTests_11 : decode cX9_needTests 11 = .ok (.getfield 54, 3) := by decide +kernel
theorem dX9_needTests_14 : decode cX9_needTests 14 = .ok (.arraylength, 1) := by decide +kernel
theorem dX9_needTests_15 : decode cX9_needTests 15 = .ok (.if_icmp .ge 39, 3) := by decide +kernel
theorem dX9_needTests_18 : decode cX9_needTests 18 = .ok (.iload_n 2, 1) := by decide +kernel
theorem dX9_needTests_19 : decode cX9_needTests 19 = .ok (.ifCond .eq 27, 3) := by decide +kernel
theorem dX9_needTests_22 : decode cX9_needTests 22 = .ok (.iload_n 3, 1) := by decide +kernel
theorem dX9_needTests_23 : decode cX9_needTests 23 = .ok (.iload_n 1, 1) := by decide +kernel
theorem dX9_needTests_24 : decode cX9_needTests 24 = .ok (.if_icmp .ge 18, 3) := by decide +kernel
theorem dX9_needTests_27 : decode cX9_needTests 27 = .ok (.aload_n 0, 1) := by decide +kernel
theorem dX9_needTests_28 : decode cX9_needTests 28 = .ok (.getfield 54, 3) := by decide +kernel
theorem dX9_needTests_31 : decode cX9_needTests 31 = .ok (.iload_n 3, 1) := by decide +kernel
theorem dX9_needTests_32 : decode cX9_needTests 32 = .ok (.iaload, 1) := by decide +kernel
theorem dX9_needTests_33 : decode cX9_needTests 33 = .ok (.iconst 0, 1) := by decide +kernel
theorem dX9_needTests_34 : decode cX9_needTests 34 = .ok (.bipush 99, 2) := by decide +kernel
theorem dX9_needTests_36 : decode cX9_needTests 36 = .ok (.invokestatic 115, 3) := by decide +kernel
theorem dX9_needTests_39 : decode cX9_needTests 39 = .ok (.ifCond .eq 7, 3) := by decide +kernel
theorem dX9_needTests_42 : decode cX9_needTests 42 = .ok (.iconst 1, 1) := by decide +kernel
theorem dX9_needTests_43 : decode cX9_needTests 43 = .ok (.goto 4, 3) := by decide +kernel
theorem dX9_needTests_46 : decode cX9_needTests 46 = .ok (.iconst 0, 1) := by decide +kernel
theorem dX9_needTests_47 : decode cX9_needTests 47 = .ok (.istore_n 2, 1) := by decide +kernel
theorem dX9_needTests_48 : decode cX9_needTests 48 = .ok (.iinc 3 1, 3) := by decide +kernel
theorem dX9_needTests_51 : decode cX9_needTests 51 = .ok (.goto (-42), 3) := by decide +kernel
theorem dX9_needTests_54 : decode cX9_needTests 54 = .ok (.iload_n 2, 1) := by decide +kernel
theorem dX9_needTests_55 : decode cX9_needTests 55 = .ok (.ifCond .ne 14, 3) := by decide +kernel
theorem dX9_needTests_58 : decode cX9_needTests 58 = .ok (.new 90, 3) := by decide +kernel
theorem dX9_needTests_61 : decode cX9_needTests 61 = .ok (.dup, 1) := by decide +kernel
theorem dX9_needTests_62 : decode cX9_needTests 62 = .ok (.ldc_w 379, 3) := by decide +kernel
theorem dX9_needTests_65 : decode cX9_needTests 65 = .ok (.invokespecial 94, 3) := by decide +kernel
theorem dX9_needTests_68 : decode cX9_needTests 68 = .ok (.athrow, 1) := by decide +kernel
theorem dX9_needTests_69 : decode cX9_needTests 69 = .ok (.return_, 1) := by decide +kernel
theorem dX9_sortTests_0 : decode cX9_sortTests 0 = .ok (.iconst 1, 1) := by decide +kernel
theorem dX9_sortTests_1 : decode cX9_sortTests 1 = .ok (.istore_n 2, 1) := by decide +kernel
theorem dX9_sortTests_2 : decode cX9_sortTests 2 = .ok (.iload_n 2, 1) := by decide +kernel
theorem dX9_sortTests_3 : decode cX9_sortTests 3 = .ok (.iload_n 1, 1) := by decide +kernel
theorem dX9_sortTests_4 : decode cX9_sortTests 4 = .ok (.if_icmp .ge 87, 3) := by decide +kernel
theorem dX9_sortTests_7 : decode cX9_sortTests 7 = .ok (.iconst 0, 1) := by decide +kernel
theorem dX9_sortTests_8 : decode cX9_sortTests 8 = .ok (.istore_n 3, 1) := by decide +kernel
theorem dX9_sortTests_9 : decode cX9_sortTests 9 = .ok (.iload_n 3, 1) := by decide +kernel
theorem dX9_sortTests_10 : decode cX9_sortTests 10 = .ok (.iconst 1, 1) := by decide +kernel
theorem dX9_sortTests_11 : decode cX9_sortTests 11 = .ok (.iadd, 1) := by decide +kernel
theorem dX9_sortTests_12 : decode cX9_sortTests 12 = .ok (.iload_n 1, 1) := by decide +kernel
theorem dX9_sortTests_13 : decode cX9_sortTests 13 = .ok (.if_icmp .ge 72, 3) := by decide +kernel
theorem dX9_sortTests_16 : decode cX9_sortTests 16 = .ok (.iload_n 3, 1) := by decide +kernel
theorem dX9_sortTests_17 : decode cX9_sortTests 17 = .ok (.iconst 1, 1) := by decide +kernel
theorem dX9_sortTests_18 : decode cX9_sortTests 18 = .ok (.iadd, 1) := by decide +kernel
theorem dX9_sortTests_19 : decode cX9_sortTests 19 = .ok (.aload_n 0, 1) := by decide +kernel
theorem dX9_sortTests_20 : decode cX9_sortTests 20 = .ok (.getfield 54, 3) := by decide +kernel
theorem dX9_sortTests_23 : decode cX9_sortTests 23 = .ok (.arraylength, 1) := by decide +kernel
theorem dX9_sortTests_24 : decode cX9_sortTests 24 = .ok (.if_icmp .ge 61, 3) := by decide +kernel
theorem dX9_sortTests_27 : decode cX9_sortTests 27 = .ok (.aload_n 0, 1) := by decide +kernel
theorem dX9_sortTests_28 : decode cX9_sortTests 28 = .ok (.getfield 54, 3) := by decide +kernel
theorem dX9_sortTests_31 : decode cX9_sortTests 31 = .ok (.iload_n 3, 1) := by decide +kernel
theorem dX9_sortTests_32 : decode cX9_sortTests 32 = .ok (.iaload, 1) := by decide +kernel
theorem dX9_sortTests_33 : decode cX9_sortTests 33 = .ok (.aload_n 0, 1) := by decide +kernel
theorem dX9_sortTests_34 : decode cX9_sortTests 34 = .ok (.getfield 54, 3) := by decide +kernel
theorem dX9_sortTests_37 : decode cX9_sortTests 37 = .ok (.iload_n 3, 1) := by decide +kernel
theorem dX9_sortTests_38 : decode cX9_sortTests 38 = .ok (.iconst 1, 1) := by decide +kernel
theorem dX9_sortTests_39 : decode cX9_sortTests 39 = .ok (.iadd, 1) := by decide +kernel
theorem dX9_sortTests_40 : decode cX9_sortTests 40 = .ok (.iaload, 1) := by decide +kernel
theorem dX9_sortTests_41 : decode cX9_sortTests 41 = .ok (.invokestatic 381, 3) := by decide +kernel
theorem dX9_sortTests_44 : decode cX9_sortTests 44 = .ok (.istore 4, 2) := by decide +kernel
theorem dX9_sortTests_46 : decode cX9_sortTests 46 = .ok (.aload_n 0, 1) := by decide +kernel
theorem dX9_sortTests_47 : decode cX9_sortTests 47 = .ok (.getfield 54, 3) := by decide +kernel
theorem dX9_sortTests_50 : decode cX9_sortTests 50 = .ok (.iload_n 3, 1) := by decide +kernel
theorem dX9_sortTests_51 : decode cX9_sortTests 51 = .ok (.iconst 1, 1) := by decide +kernel
theorem dX9_sortTests_52 : decode cX9_sortTests 52 = .ok (.iadd, 1) := by decide +kernel
theorem dX9_sortTests_53 : decode cX9_sortTests 53 = .ok (.aload_n 0, 1) := by decide +kernel
theorem dX9_sortTests_54 : decode cX9_sortTests 54 = .ok (.getfield 54, 3) := by decide +kernel
theorem dX9_sortTests_57 : decode cX9_sortTests 57 = .ok (.iload_n 3, 1) := by decide +kernel
theorem dX9_sortTests_58 : decode cX9_sortTests 58 = .ok (.iaload, 1) := by decide +kernel
theorem dX9_sortTests_59 : decode cX9_sortTests 59 = .ok (.aload_n 0, 1) := by decide +kernel
theorem dX9_sortTests_60 : decode cX9_sortTests 60 = .ok (.getfield 54, 3) := by decide +kernel
theorem dX9_sortTests_63 : decode cX9_sortTests 63 = .ok (.iload_n 3, 1) := by decide +kernel
theorem dX9_sortTests_64 : decode cX9_sortTests 64 = .ok (.iconst 1, 1) := by decide +kernel
theorem dX9_sortTests_65 : decode cX9_sortTests 65 = .ok (.iadd, 1) := by decide +kernel
theorem dX9_sortTests_66 : decode cX9_sortTests 66 = .ok (.iaload, 1) := by decide +kernel
theorem dX9_sortTests_67 : decode cX9_sortTests 67 = .ok (.invokestatic 386, 3) := by decide +kernel
theorem dX9_sortTests_70 : decode cX9_sortTests 70 = .ok (.iastore, 1) := by decide +kernel
theorem dX9_sortTests_71 : decode cX9_sortTests 71 = .ok (.aload_n 0, 1) := by decide +kernel
theorem dX9_sortTests_72 : decode cX9_sortTests 72 = .ok (.getfield 54, 3) := by decide +kernel
theorem dX9_sortTests_75 : decode cX9_sortTests 75 = .ok (.iload_n 3, 1) := by decide +kernel
theorem dX9_sortTests_76 : decode cX9_sortTests 76 = .ok (.iload 4, 2) := by decide +kernel
theorem dX9_sortTests_78 : decode cX9_sortTests 78 = .ok (.iastore, 1) := by decide +kernel
theorem dX9_sortTests_79 : decode cX9_sortTests 79 = .ok (.iinc 3 1, 3) := by decide +kernel
theorem dX9_sortTests_82 : decode cX9_sortTests 82 = .ok (.goto (-73), 3) := by decide +kernel
theorem dX9_sortTests_85 : decode cX9_sortTests 85 = .ok (.iinc 2 1, 3) := by decide +kernel
theorem dX9_sortTests_88 : decode cX9_sortTests 88 = .ok (.goto (-86), 3) := by decide +kernel
theorem dX9_sortTests_91 : decode cX9_sortTests 91 = .ok (.return_, 1) := by decide +kernel
theorem dX10_init_0 : decode cX10_init 0 = .ok (.aload_n 0, 1) := by decide +kernel
theorem dX10_init_1 : decode cX10_init 1 = .ok (.invokespecial 1, 3) := by decide +kernel
theorem dX10_init_4 : decode cX10_init 4 = .ok (.aload_n 0, 1) := by decide +kernel
theorem dX10_init_5 : decode cX10_init 5 = .ok (.bipush 24, 2) := by decide +kernel
theorem dX10_init_7 : decode cX10_init 7 = .ok (.newarray .int, 2) := by decide +kernel
theorem dX10_init_9 : decode cX10_init 9 = .ok (.putfield 9, 3) := by decide +kernel
theorem dX10_init_12 : decode cX10_init 12 = .ok (.aload_n 0, 1) := by decide +kernel
theorem dX10_init_13 : decode cX10_init 13 = .ok (.bipush 24, 2) := by decide +kernel
theorem dX10_init_15 : decode cX10_init 15 = .ok (.newarray .int, 2) := by decide +kernel
theorem dX10_init_17 : decode cX10_init 17 = .ok (.putfield 13, 3) := by decide +kernel
theorem dX10_init_20 : decode cX10_init 20 = .ok (.aload_n 0, 1) := by decide +kernel
theorem dX10_init_21 : decode cX10_init 21 = .ok (.bipush 24, 2) := by decide +kernel
theorem dX10_init_23 : decode cX10_init 23 = .ok (.newarray .int, 2) := by decide +kernel
theorem dX10_init_25 : decode cX10_init 25 = .ok (.putfield 16, 3) := by decide +kernel
theorem dX10_init_28 : decode cX10_init 28 = .ok (.aload_n 0, 1) := by decide +kernel
theorem dX10_init_29 : decode cX10_init 29 = .ok (.bipush 24, 2) := by decide +kernel
theorem dX10_init_31 : decode cX10_init 31 = .ok (.newarray .int, 2) := by decide +kernel
theorem dX10_init_33 : decode cX10_init 33 = .ok (.putfield 19, 3) := by decide +kernel
theorem dX10_init_36 : decode cX10_init 36 = .ok (.aload_n 0, 1) := by decide +kernel
theorem dX10_init_37 : decode cX10_init 37 = .ok (.bipush 24, 2) := by decide +kernel
theorem dX10_init_39 : decode cX10_init 39 = .ok (.newarray .int, 2) := by decide +kernel
theorem dX10_init_41 : decode cX10_init 41 = .ok (.putfield 22, 3) := by decide +kernel
theorem dX10_init_44 : decode cX10_init 44 = .ok (.aload_n 0, 1) := by decide +kernel
theorem dX10_init_45 : decode cX10_init 45 = .ok (.bipush 24, 2) := by decide +kernel
theorem dX10_init_47 : decode cX10_init 47 = .ok (.newarray .int, 2) := by decide +kernel
theorem dX10_init_49 : decode cX10_init 49 = .ok (.putfield 25, 3) := by decide +kernel
theorem dX10_init_52 : decode cX10_init 52 = .ok (.aload_n 0, 1) := by decide +kernel
theorem dX10_init_53 : decode cX10_init 53 = .ok (.bipush 24, 2) := by decide +kernel
theorem dX10_init_55 : decode cX10_init 55 = .ok (.newarray .int, 2) := by decide +kernel
theorem dX10_init_57 : decode cX10_init 57 = .ok (.putfield 28, 3) := by decide +kernel
theorem dX10_init_60 : decode cX10_init 60 = .ok (.aload_n 0, 1) := by decide +kernel
theorem dX10_init_61 : decode cX10_init 61 = .ok (.bipush 24, 2) := by decide +kernel
theorem dX10_init_63 : decode cX10_init 63 = .ok (.newarray .int, 2) := by decide +kernel
theorem dX10_init_65 : decode cX10_init 65 = .ok (.putfield 31, 3) := by decide +kernel
theorem dX10_init_68 : decode cX10_init 68 = .ok (.aload_n 0, 1) := by decide +kernel
theorem dX10_init_69 : decode cX10_init 69 = .ok (.bipush 24, 2) := by decide +kernel
theorem dX10_init_71 : decode cX10_init 71 = .ok (.newarray .int, 2) := by decide +kernel
theorem dX10_init_73 : decode cX10_init 73 = .ok (.putfield 34, 3) := by decide +kernel
theorem dX10_init_76 : decode cX10_init 76 = .ok (.aload_n 0, 1) := by decide +kernel
theorem dX10_init_77 : decode cX10_init 77 = .ok (.bipush 6, 2) := by decide +kernel
theorem dX10_init_79 : decode cX10_init 79 = .ok (.newarray .int, 2) := by decide +kernel
theorem dX10_init_81 : decode cX10_init 81 = .ok (.putfield 37, 3) := by decide +kernel
theorem dX10_init_84 : decode cX10_init 84 = .ok (.aload_n 0, 1) := by decide +kernel
theorem dX10_init_85 : decode cX10_init 85 = .ok (.bipush 6, 2) := by decide +kernel
theorem dX10_init_87 : decode cX10_init 87 = .ok (.newarray .int, 2) := by decide +kernel
theorem dX10_init_89 : decode cX10_init 89 = .ok (.putfield 40, 3) := by decide +kernel
theorem dX10_init_92 : decode cX10_init 92 = .ok (.aload_n 0, 1) := by decide +kernel
theorem dX10_init_93 : decode cX10_init 93 = .ok (.bipush 8, 2) := by decide +kernel
theorem dX10_init_95 : decode cX10_init 95 = .ok (.newarray .int, 2) := by decide +kernel
theorem dX10_init_97 : decode cX10_init 97 = .ok (.dup, 1) := by decide +kernel
theorem dX10_init_98 : decode cX10_init 98 = .ok (.iconst 0, 1) := by decide +kernel
theorem dX10_init_99 : decode cX10_init 99 = .ok (.iconst 4, 1) := by decide +kernel
theorem dX10_init_100 : decode cX10_init 100 = .ok (.iastore, 1) := by decide +kernel
theorem dX10_init_101 : decode cX10_init 101 = .ok (.dup, 1) := by decide +kernel
theorem dX10_init_102 : decode cX10_init 102 = .ok (.iconst 1, 1) := by decide +kernel
theorem dX10_init_103 : decode cX10_init 103 = .ok (.iconst 4, 1) := by decide +kernel
theorem dX10_init_104 : decode cX10_init 104 = .ok (.iastore, 1) := by decide +kernel
theorem dX10_init_105 : decode cX10_init 105 = .ok (.dup, 1) := by decide +kernel
theorem dX10_init_106 : decode cX10_init 106 = .ok (.iconst 2, 1) := by decide +kernel
theorem dX10_init_107 : decode cX10_init 107 = .ok (.iconst 4, 1) := by decide +kernel
theorem dX10_init_108 : decode cX10_init 108 = .ok (.iastore, 1) := by decide +kernel
theorem dX10_init_109 : decode cX10_init 109 = .ok (.dup, 1) := by decide +kernel
theorem dX10_init_110 : decode cX10_init 110 = .ok (.iconst 3, 1) := by decide +kernel
theorem dX10_init_111 : decode cX10_init 111 = .ok (.iconst 4, 1) := by decide +kernel
theorem dX10_init_112 : decode cX10_init 112 = .ok (.iastore, 1) := by decide +kernel
theorem dX10_init_113 : decode cX10_init 113 = .ok (.dup, 1) := by decide +kernel
theorem dX10_init_114 : decode cX10_init 114 = .ok (.iconst 4, 1) := by decide +kernel
theorem dX10_init_115 : decode cX10_init 115 = .ok (.iconst 4, 1) := by decide +kernel
theorem dX10_init_116 : decode cX10_init 116 = .ok (.iastore, 1) := by decide +kernel
theorem dX10_init_117 : decode cX10_init 117 = .ok (.dup, 1) := by decide +kernel
theorem dX10_init_118 : decode cX10_init 118 = .ok (.iconst 5, 1) := by decide +kernel
theorem dX10_init_119 : decode cX10_init 119 = .ok (.iconst 4, 1) := by decide +kernel
theorem dX10_init_120 : decode cX10_init 120 = .ok (.iastore, 1) := by decide +kernel
theorem dX10_init_121 : decode cX10_init 121 = .ok (.dup, 1) := by decide +kernel
theorem dX10_init_122 : decode cX10_init 122 = .ok (.bipush 6, 2) := by decide +kernel
theorem dX10_init_124 : decode cX10_init 124 = .ok (.iconst 4, 1) := by decide +kernel
theorem dX10_init_125 : decode cX10_init 125 = .ok (.iastore, 1) := by decide +kernel
theorem dX10_init_126 : decode cX10_init 126 = .ok (.dup, 1) := by decide +kernel
theorem dX10_init_127 : decode cX10_init 127 = .ok (.bipush 7, 2) := by decide +kernel
theorem dX10_init_129 : decode cX10_init 129 = .ok (.iconst 4, 1) := by decide +kernel
theorem dX10_init_130 : decode cX10_init 130 = .ok (.iastore, 1) := by decide +kernel
theorem dX10_init_131 : decode cX10_init 131 = .ok (.putfield 43, 3) := by decide +kernel
theorem dX10_init_134 : decode cX10_init 134 = .ok (.aload_n 0, 1) := by decide +kernel
theorem dX10_init_135 : decode cX10_init 135 = .ok (.bipush 8, 2) := by decide +kernel
theorem dX10_init_137 : decode cX10_init 137 = .ok (.newarray .int, 2) := by decide +kernel
theorem dX10_init_139 : decode cX10_init 139 = .ok (.putfield 46, 3) := by decide +kernel
theorem dX10_init_142 : decode cX10_init 142 = .ok (.aload_n 0, 1) := by decide +kernel
theorem dX10_init_143 : decode cX10_init 143 = .ok (.bipush 8, 2) := by decide +kernel
theorem dX10_init_145 : decode cX10_init 145 = .ok (.newarray .int, 2) := by decide +kernel
theorem dX10_init_147 : decode cX10_init 147 = .ok (.putfield 49, 3) := by decide +kernel
theorem dX10_init_150 : decode cX10_init 150 = .ok (.aload_n 0, 1) := by decide +kernel
theorem dX10_init_151 : decode cX10_init 151 = .ok (.bipush 8, 2) := by decide +kernel
theorem dX10_init_153 : decode cX10_init 153 = .ok (.newarray .int, 2) := by decide +kernel
theorem dX10_init_155 : decode cX10_init 155 = .ok (.putfield 52, 3) := by decide +kernel
theorem dX10_init_158 : decode cX10_init 158 = .ok (.aload_n 0, 1) := by decide +kernel
theorem dX10_init_159 : decode cX10_init 159 = .ok (.bipush 8, 2) := by decide +kernel
theorem dX10_init_161 : decode cX10_init 161 = .ok (.newarray .int, 2) := by decide +kernel
theorem dX10_init_163 : decode cX10_init 163 = .ok (.putfield 55, 3) := by decide +kernel
theorem dX10_init_166 : decode cX10_init 166 = .ok (.aload_n 0, 1) := by decide +kernel
theorem dX10_init_167 : decode cX10_init 167 = .ok (.bipush 8, 2) := by decide +kernel
theorem dX10_init_169 : decode cX10_init 169 = .ok (.newarray .int, 2) := by decide +kernel
theorem dX10_init_171 : decode cX10_init 171 = .ok (.putfield 58, 3) := by decide +kernel
theorem dX10_init_174 : decode cX10_init 174 = .ok (.aload_n 0, 1) := by decide +kernel
theorem dX10_init_175 : decode cX10_init 175 = .ok (.bipush 8, 2) := by decide +kernel
theorem dX10_init_177 : decode cX10_init 177 = .ok (.newarray .int, 2) := by decide +kernel
theorem dX10_init_179 : decode cX10_init 179 = .ok (.putfield 61, 3) := by decide +kernel
theorem dX10_init_182 : decode cX10_init 182 = .ok (.aload_n 0, 1) := by decide +kernel
theorem dX10_init_183 : decode cX10_init 183 = .ok (.sipush 4800, 3) := by decide +kernel
theorem dX10_init_186 : decode cX10_init 186 = .ok (.newarray .int, 2) := by decide +kernel
theorem dX10_init_188 : decode cX10_init 188 = .ok (.putfield 64, 3) := by decide +kernel
theorem dX10_init_191 : decode cX10_init 191 = .ok (.aload_n 0, 1) := by decide +kernel
theorem dX10_init_192 : decode cX10_init 192 = .ok (.bipush 12, 2) := by decide +kernel
theorem dX10_init_194 : decode cX10_init 194 = .ok (.newarray .int, 2) := by decide +kernel
theorem dX10_init_196 : decode cX10_init 196 = .ok (.putfield 67, 3) := by decide +kernel
theorem dX10_init_199 : decode cX10_init 199 = .ok (.aload_n 0, 1) := by decide +kernel
theorem dX10_init_200 : decode cX10_init 200 = .ok (.bipush 12, 2) := by decide +kernel
theorem dX10_init_202 : decode cX10_init 202 = .ok (.newarray .int, 2) := by decide +kernel
theorem dX10_init_204 : decode cX10_init 204 = .ok (.putfield 70, 3) := by decide +kernel
theorem dX10_init_207 : decode cX10_init 207 = .ok (.aload_n 0, 1) := by decide +kernel
theorem dX10_init_208 : decode cX10_init 208 = .ok (.bipush 12, 2) := by decide +kernel
theorem dX10_init_210 : decode cX10_init 210 = .ok (.newarray .int, 2) := by decide +kernel
theorem dX10_init_212 : decode cX10_init 212 = .ok (.putfield 73, 3) := by decide +kernel
theorem dX10_init_215 : decode cX10_init 215 = .ok (.aload_n 0, 1) := by decide +kernel
theorem dX10_init_216 : decode cX10_init 216 = .ok (.sipush 300, 3) := by decide +kernel
theorem dX10_init_219 : decode cX10_init 219 = .ok (.newarray .int, 2) := by decide +kernel
theorem dX10_init_221 : decode cX10_init 221 = .ok (.putfield 76, 3) := by decide +kernel
theorem dX10_init_224 : decode cX10_init 224 = .ok (.aload_n 0, 1) := by decide +kernel
theorem dX10_init_225 : decode cX10_init 225 = .ok (.sipush 300, 3) := by decide +kernel
theorem dX10_init_228 : decode cX10_init 228 = .ok (.newarray .int, 2) := by decide +kernel
theorem dX10_init_230 : decode cX10_init 230 = .ok (.putfield 79, 3) := by decide +kernel
theorem dX10_init_233 : decode cX10_init 233 = .ok (.aload_n 0, 1) := by decide +kernel
theorem dX10_init_234 : decode cX10_init 234 = .ok (.iconst 2, 1) := by decide +kernel
theorem dX10_init_235 : decode cX10_init 235 = .ok (.putfield 82, 3) := by decide +kernel
theorem dX10_init_238 : decode cX10_init 238 = .ok (.aload_n 0, 1) := by decide +kernel
theorem dX10_init_239 : decode cX10_init 239 = .ok (.sipush 400, 3) := by decide +kernel
theorem dX10_init_242 : decode cX10_init 242 = .ok (.newarray .byte, 2) := by decide +kernel
theorem dX10_init_244 : decode cX10_init 244 = .ok (.putfield 86, 3) := by decide +kernel
theorem dX10_init_247 : decode cX10_init 247 = .ok (.aload_n 0, 1) := by decide +kernel
theorem dX10_init_248 : decode cX10_init 248 = .ok (.iconst (-1), 1) := by decide +kernel
theorem dX10_init_249 : decode cX10_init 249 = .ok (.putfield 90, 3) := by decide +kernel
theorem dX10_init_252 : decode cX10_init 252 = .ok (.aload_n 0, 1) := by decide +kernel
theorem dX10_init_253 : decode cX10_init 253 = .ok (.iconst 5, 1) := by decide +kernel
theorem dX10_init_254 : decode cX10_init 254 = .ok (.newarray .int, 2) := by decide +kernel
theorem dX10_init_256 : decode cX10_init 256 = .ok (.putfield 93, 3) := by decide +kernel
theorem dX10_init_259 : decode cX10_init 259 = .ok (.aload_n 0, 1) := by decide +kernel
theorem dX10_init_260 : decode cX10_init 260 = .ok (.sipush 360, 3) := by decide +kernel
theorem dX10_init_263 : decode cX10_init 263 = .ok (.newarray .int, 2) := by decide +kernel
theorem dX10_init_265 : decode cX10_init 265 = .ok (.putfield 96, 3) := by decide +kernel
theorem dX10_init_268 : decode cX10_init 268 = .ok (.aload_n 0, 1) := by decide +kernel
theorem dX10_init_269 : decode cX10_init 269 = .ok (.sipush 200, 3) := by decide +kernel
theorem dX10_init_272 : decode cX10_init 272 = .ok (.newarray .int, 2) := by decide +kernel
theorem dX10_init_274 : decode cX10_init 274 = .ok (.putfield 99, 3) := by decide +kernel
theorem dX10_init_277 : decode cX10_init 277 = .ok (.aload_n 0, 1) := by decide +kernel
theorem dX10_init_278 : decode cX10_init 278 = .ok (.sipush 200, 3) := by decide +kernel
theorem dX10_init_281 : decode cX10_init 281 = .ok (.newarray .int, 2) := by decide +kernel
theorem dX10_init_283 : decode cX10_init 283 = .ok (.putfield 102, 3) := by decide +kernel
theorem dX10_init_286 : decode cX10_init 286 = .ok (.aload_n 0, 1) := by decide +kernel
theorem dX10_init_287 : decode cX10_init 287 = .ok (.sipush 200, 3) := by decide +kernel
theorem dX10_init_290 : decode cX10_init 290 = .ok (.newarray .int, 2) := by decide +kernel
theorem dX10_init_292 : decode cX10_init 292 = .ok (.putfield 105, 3) := by decide +kernel
theorem dX10_init_295 : decode cX10_init 295 = .ok (.aload_n 0, 1) := by decide +kernel
theorem dX10_init_296 : decode cX10_init 296 = .ok (.sipush 200, 3) := by decide +kernel
theorem dX10_init_299 : decode cX10_init 299 = .ok (.newarray .int, 2) := by decide +kernel
theorem dX10_init_301 : decode cX10_init 301 = .ok (.putfield 108, 3) := by decide +kernel
theorem dX10_init_304 : decode cX10_init 304 = .ok (.aload_n 0, 1) := by decide +kernel
theorem dX10_init_305 : decode cX10_init 305 = .ok (.sipush 200, 3) := by decide +kernel
theorem dX10_init_308 : decode cX10_init 308 = .ok (.newarray .int, 2) := by decide +kernel
theorem dX10_init_310 : decode cX10_init 310 = .ok (.putfield 111, 3) := by decide +kernel
theorem dX10_init_313 : decode cX10_init 313 = .ok (.aload_n 0, 1) := by decide +kernel
theorem dX10_init_314 : decode cX10_init 314 = .ok (.bipush 18, 2) := by decide +kernel
theorem dX10_init_316 : decode cX10_init 316 = .ok (.newarray .boolean, 2) := by decide +kernel
theorem dX10_init_318 : decode cX10_init 318 = .ok (.putfield 114, 3) := by decide +kernel
theorem dX10_init_321 : decode cX10_init 321 = .ok (.aload_n 0, 1) := by decide +kernel
theorem dX10_init_322 : decode cX10_init 322 = .ok (.bipush 18, 2) := by decide +kernel
theorem dX10_init_324 : decode cX10_init 324 = .ok (.newarray .boolean, 2) := by decide +kernel
theorem dX10_init_326 : decode cX10_init 326 = .ok (.putfield 118, 3) := by decide +kernel
theorem dX10_init_329 : decode cX10_init 329 = .ok (.aload_n 0, 1) := by decide +kernel
theorem dX10_init_330 : decode cX10_init 330 = .ok (.bipush 18, 2) := by decide +kernel
theorem dX10_init_332 : decode cX10_init 332 = .ok (.newarray .boolean, 2) := by decide +kernel
theorem dX10_init_334 : decode cX10_init 334 = .ok (.putfield 121, 3) := by decide +kernel
theorem dX10_init_337 : decode cX10_init 337 = .ok (.aload_n 0, 1) := by decide +kernel
theorem dX10_init_338 : decode cX10_init 338 = .ok (.sipush 5508, 3) := by decide +kernel
theorem dX10_init_341 : decode cX10_init 341 = .ok (.newarray .int, 2) := by decide +kernel
theorem dX10_init_343 : decode cX10_init 343 = .ok (.putfield 124, 3) := by decide +kernel
theorem dX10_init_346 : decode cX10_init 346 = .ok (.return_, 1) := by decide +kernel
theorem dX10_thrown_0 : decode cX10_thrown 0 = .ok (.aload_n 0, 1) := by decide +kernel
theorem dX10_thrown_1 : decode cX10_thrown 1 = .ok (.getfield 127, 3) := by decide +kernel
theorem dX10_thrown_4 : decode cX10_thrown 4 = .ok (.ireturn, 1) := by decide +kernel
theorem dX10_throwsIf_0 : decode cX10_throwsIf 0 = .ok (.iload_n 1, 1) := by decide +kernel
theorem dX10_throwsIf_1 : decode cX10_throwsIf 1 = .ok (.ifCond .eq 8, 3) := by decide +kernel
theorem dX10_throwsIf_4 : decode cX10_throwsIf 4 = .ok (.aload_n 0, 1) := by decide +kernel
theorem dX10_throwsIf_5 : decode cX10_throwsIf 5 = .ok (.iload_n 2, 1) := by decide +kernel
theorem dX10_throwsIf_6 : decode cX10_throwsIf 6 = .ok (.putfield 127, 3) := by decide +kernel
theorem dX10_throwsIf_9 : decode cX10_throwsIf 9 = .ok (.iload_n 1, 1) := by decide +kernel
theorem dX10_throwsIf_10 : decode cX10_throwsIf 10 = .ok (.ireturn, 1) := by decide +kernel
theorem dX10_in_0 : decode cX10_in 0 = .ok (.iload_n 0, 1) := by decide +kernel
theorem dX10_in_1 : decode cX10_in 1 = .ok (.iload_n 1, 1) := by decide +kernel
theorem dX10_in_2 : decode cX10_in 2 = .ok (.if_icmp .lt 12, 3) := by decide +kernel
theorem dX10_in_5 : decode cX10_in 5 = .ok (.iload_n 0, 1) := by decide +kernel
theorem dX10_in_6 : decode cX10_in 6 = .ok (.iload_n 2, 1) := by decide +kernel
theorem dX10_in_7 : decode cX10_in 7 = .ok (.if_icmp .gt 7, 3) := by decide +kernel
theorem dX10_in_10 : decode cX10_in 10 = .ok (.iconst 1, 1) := by decide +kernel
theorem dX10_in_11 : decode cX10_in 11 = .ok (.goto 4, 3) := by decide +kernel
theorem dX10_in_14 : decode cX10_in 14 = .ok (.iconst 0, 1) := by decide +kernel
theorem dX10_in_15 : decode cX10_in 15 = .ok (.ireturn, 1) := by decide +kernel
set_option maxRecDepth 20000 in
theorem ggX10_noShore_X10_in : GoodIn wsX10_noShore wsX10_in := goodIn_r _ [5] (by decide +kernel) (by decide +kernel)
set_option maxRecDepth 20000 in
theorem gX10_noShore_X10_in : GoodIn wsX10_noShore (va_wsS RX10 133 yX10_in wsX10_in) := goodIn_app (goodIn_of _ (by decide +kernel)) ggX10_noShore_X10_in
theorem dX10_noShore_0 : decode cX10_noShore 0 = .ok (.iload_n 1, 1) := by decide +kernel
theorem dX10_noShore_1 : decode cX10_noShore 1 = .ok (.iconst 0, 1) := by decide +kernel
theorem dX10_noShore_2 : decode cX10_noShore 2 = .ok (.aload_n 0, 1) := by decide +kernel
theorem dX10_noShore_3 : decode cX10_noShore 3 = .ok (.getfield 130, 3) := by decide +kernel
theorem dX10_noShore_6 : decode cX10_noShore 6 = .ok (.iconst 1, 1) := by decide +kernel
theorem dX10_noShore_7 : decode cX10_noShore 7 = .ok (.isub, 1) := by decide +kernel
theorem dX10_noShore_8 : decode cX10_noShore 8 = .ok (.invokestatic 133, 3) := by decide +kernel
theorem dX10_noShore_11 : decode cX10_noShore 11 = .ok (.ifCond .ne 7, 3) := by decide +kernel
theorem dX10_noShore_14 : decode cX10_noShore 14 = .ok (.iconst 1, 1) := by decide +kernel
theorem dX10_noShore_15 : decode cX10_noShore 15 = .ok (.goto 4, 3) := by decide +kernel
theorem dX10_noShore_18 : decode cX10_noShore 18 = .ok (.iconst 0, 1) := by decide +kernel
theorem dX10_noShore_19 : decode cX10_noShore 19 = .ok (.ireturn, 1) := by decide +kernel
set_option maxRecDepth 20000 in
theorem ggX10_noRock_X10_noShore : GoodIn wsX10_noRock wsX10_noShore := goodIn_r _ [6, 7, 8, 9, 5, 10, 11, 12, 13, 14, 15, 16, 17, 18, 19, 20, 21, 22, 23, 24, 25, 26, 27, 28, 29, 30, 31, 32, 33, 34, 35, 36, 37, 38, 39, 40, 41, 42, 43, 44, 45, 46, 47, 48, 49, 50, 51, 52, 53, 54, 55, 56, 57, 58, 59, 60, 61, 62, 63] (by decide +kernel) (by decide +kernel)
set_option maxRecDepth 20000 in
theorem gX10_noRock_X10_noShore : GoodIn wsX10_noRock (wsV RX10 137 RX10 yX10_noShore wsX10_noShore) := goodIn_app (goodIn_of _ (by decide +kernel)) ggX10_noRock_X10_noShore
set_option maxRecDepth 20000 in
theorem ggX10_noRock_X10_in : GoodIn wsX10_noRock wsX10_in := goodIn_r _ [10] (by decide +kernel) (by decide +kernel)
set_option maxRecDepth 20000 in
theorem gX10_noRock_X10_in : GoodIn wsX10_noRock (va_wsS RX10 133 yX10_in wsX10_in) := goodIn_app (goodIn_of _ (by decide +kernel)) ggX10_noRock_X10_in
theorem dX10_noRock_0 : decode cX10_noRock 0 = .ok (.aload_n 0, 1) := by decide +kernel
theorem dX10_noRock_1 : decode cX10_noRock 1 = .ok (.iload_n 1, 1) := by decide +kernel
theorem dX10_noRock_2 : decode cX10_noRock 2 = .ok (.invokevirtual 137, 3) := by decide +kernel
theorem dX10_noRock_5 : decode cX10_noRock 5 = .ok (.ifCond .ne 19, 3) := by decide +kernel
theorem dX10_noRock_8 : decode cX10_noRock 8 = .ok (.iload_n 2, 1) := by decide +kernel
theorem dX10_noRock_9 : decode cX10_noRock 9 = .ok (.iconst 0, 1) := by decide +kernel
theorem dX10_noRock_10 : decode cX10_noRock 10 = .ok (.aload_n 0, 1) := by decide +kernel
theorem dX10_noRock_11 : decode cX10_noRock 11 = .ok (.getfield 37, 3) := by decide +kernel
theorem dX10_noRock_14 : decode cX10_noRock 14 = .ok (.iload_n 1, 1) := by decide +kernel
theorem dX10_noRock_15 : decode cX10_noRock 15 = .ok (.iaload, 1) := by decide +kernel
theorem dX10_noRock_16 : decode cX10_noRock 16 = .ok (.iconst 1, 1) := by decide +kernel
theorem dX10_noRock_17 : decode cX10_noRock 17 = .ok (.isub, 1) := by decide +kernel
theorem dX10_noRock_18 : decode cX10_noRock 18 = .ok (.invokestatic 133, 3) := by decide +kernel
theorem dX10_noRock_21 : decode cX10_noRock 21 = .ok (.ifCond .ne 7, 3) := by decide +kernel
theorem dX10_noRock_24 : decode cX10_noRock 24 = .ok (.iconst 1, 1) := by decide +kernel
theorem dX10_noRock_25 : decode cX10_noRock 25 = .ok (.goto 4, 3) := by decide +kernel
theorem dX10_noRock_28 : decode cX10_noRock 28 = .ok (.iconst 0, 1) := by decide +kernel
theorem dX10_noRock_29 : decode cX10_noRock 29 = .ok (.ireturn, 1) := by decide +kernel
set_option maxRecDepth 20000 in
theorem ggX10_noFamily_X10_in : GoodIn wsX10_noFamily wsX10_in := goodIn_r _ [4] (by decide +kernel) (by decide +kernel)
set_option maxRecDepth 20000 in
theorem gX10_noFamily_X10_in : GoodIn wsX10_noFamily (va_wsS RX10 133 yX10_in wsX10_in) := goodIn_app (goodIn_of _ (by decide +kernel)) ggX10_noFamily_X10_in
theorem dX10_noFamily_0 : decode cX10_noFamily 0 = .ok (.iload_n 0, 1) := by decide +kernel
theorem dX10_noFamily_1 : decode cX10_noFamily 1 = .ok (.iconst 0, 1) := by decide +kernel
theorem dX10_noFamily_2 : decode cX10_noFamily 2 = .ok (.bipush 7, 2) := by decide +kernel
theorem dX10_noFamily_4 : decode cX10_noFamily 4 = .ok (.invokestatic 133, 3) := by decide +kernel
theorem dX10_noFamily_7 : decode cX10_noFamily 7 = .ok (.ifCond .ne 7, 3) := by decide +kernel
theorem dX10_noFamily_10 : decode cX10_noFamily 10 = .ok (.iconst 1, 1) := by decide +kernel
theorem dX10_noFamily_11 : decode cX10_noFamily 11 = .ok (.goto 4, 3) := by decide +kernel
theorem dX10_noFamily_14 : decode cX10_noFamily 14 = .ok (.iconst 0, 1) := by decide +kernel
theorem dX10_noFamily_15 : decode cX10_noFamily 15 = .ok (.ireturn, 1) := by decide +kernel
set_option maxRecDepth 20000 in
theorem ggX10_shore_X10_throwsIf : GoodIn wsX10_shore wsX10_throwsIf := goodIn_r _ [7, 1, 8, 9, 10, 11, 12, 13, 14, 15, 16, 17, 18, 19, 20, 21, 22, 23, 24, 25, 26, 27, 28, 29, 30, 31, 32, 33, 34, 35, 36, 37, 38, 39, 40, 41, 42, 43, 44, 45, 46, 47, 48, 49, 50, 51, 52, 53, 54, 55, 56, 57, 58, 59, 60] (by decide +kernel) (by decide +kernel)
set_option maxRecDepth 20000 in
theorem gX10_shore_X10_throwsIf : GoodIn wsX10_shore (wsV RX10 141 RX10 yX10_throwsIf wsX10_throwsIf) := goodIn_app (goodIn_of _ (by decide +kernel)) ggX10_shore_X10_throwsIf
theorem dX10_shore_0 : decode cX10_shore 0 = .ok (.aload_n 0, 1) := by decide +kernel
theorem dX10_shore_1 : decode cX10_shore 1 = .ok (.iconst 0, 1) := by decide +kernel
theorem dX10_shore_2 : decode cX10_shore 2 = .ok (.putfield 127, 3) := by decide +kernel
theorem dX10_shore_5 : decode cX10_shore 5 = .ok (.aload_n 0, 1) := by decide +kernel
theorem dX10_shore_6 : decode cX10_shore 6 = .ok (.aload_n 0, 1) := by decide +kernel
theorem dX10_shore_7 : decode cX10_shore 7 = .ok (.getfield 130, 3) := by decide +kernel
theorem dX10_shore_10 : decode cX10_shore 10 = .ok (.bipush 6, 2) := by decide +kernel
theorem dX10_shore_12 : decode cX10_shore 12 = .ok (.if_icmp .ne 7, 3) := by decide +kernel
theorem dX10_shore_15 : decode cX10_shore 15 = .ok (.iconst 1, 1) := by decide +kernel
theorem dX10_shore_16 : decode cX10_shore 16 = .ok (.goto 4, 3) := by decide +kernel
theorem dX10_shore_19 : decode cX10_shore 19 = .ok (.iconst 0, 1) := by decide +kernel
theorem dX10_shore_20 : decode cX10_shore 20 = .ok (.iconst 1, 1) := by decide +kernel
theorem dX10_shore_21 : decode cX10_shore 21 = .ok (.invokevirtual 141, 3) := by decide +kernel
theorem dX10_shore_24 : decode cX10_shore 24 = .ok (.ifCond .eq 5, 3) := by decide +kernel
theorem dX10_shore_27 : decode cX10_shore 27 = .ok (.iconst 0, 1) := by decide +kernel
theorem dX10_shore_28 : decode cX10_shore 28 = .ok (.ireturn, 1) := by decide +kernel
theorem dX10_shore_29 : decode cX10_shore 29 = .ok (.aload_n 0, 1) := by decide +kernel
theorem dX10_shore_30 : decode cX10_shore 30 = .ok (.dup, 1) := by decide +kernel
theorem dX10_shore_31 : decode cX10_shore 31 = .ok (.getfield 130, 3) := by decide +kernel
theorem dX10_shore_34 : decode cX10_shore 34 = .ok (.iconst 1, 1) := by decide +kernel
theorem dX10_shore_35 : decode cX10_shore 35 = .ok (.iadd, 1) := by decide +kernel
theorem dX10_shore_36 : decode cX10_shore 36 = .ok (.putfield 130, 3) := by decide +kernel
theorem dX10_shore_39 : decode cX10_shore 39 = .ok (.aload_n 0, 1) := by decide +kernel
theorem dX10_shore_40 : decode cX10_shore 40 = .ok (.getfield 130, 3) := by decide +kernel
theorem dX10_shore_43 : decode cX10_shore 43 = .ok (.iconst 1, 1) := by decide +kernel
theorem dX10_shore_44 : decode cX10_shore 44 = .ok (.isub, 1) := by decide +kernel
theorem dX10_shore_45 : decode cX10_shore 45 = .ok (.ireturn, 1) := by decide +kernel
set_option maxRecDepth 20000 in
theorem ggX10_rock_X10_noShore : GoodIn wsX10_rock wsX10_noShore := goodIn_r _ [13, 14, 15, 16, 12, 17, 22, 23, 24, 25, 26, 27, 28, 29, 30, 31, 32, 33, 34, 35, 36, 37, 38, 39, 40, 41, 42, 43, 44, 45, 46, 47, 48, 49, 50, 51, 52, 53, 54, 55, 56, 57, 58, 59, 60, 61, 62, 63, 64, 65, 66, 67, 68, 69, 70, 71, 72, 73, 74] (by decide +kernel) (by decide +kernel)
set_option maxRecDepth 20000 in
theorem gX10_rock_X10_noShore : GoodIn wsX10_rock (wsV RX10 137 RX10 yX10_noShore wsX10_noShore) := goodIn_app (goodIn_of _ (by decide +kernel)) ggX10_rock_X10_noShore
set_option maxRecDepth 20000 in
theorem ggX10_rock_X10_throwsIf : GoodIn wsX10_rock wsX10_throwsIf := goodIn_r _ [21, 1, 22, 23, 24, 25, 26, 27, 28, 29, 30, 31, 32, 33, 34, 35, 36, 37, 38, 39, 40, 41, 42, 43, 44, 45, 46, 47, 48, 49, 50, 51, 52, 53, 54, 55, 56, 57, 58, 59, 60, 61, 62, 63, 64, 65, 66, 67, 68, 69, 70, 71, 72, 73, 74] (by decide +kernel) (by decide +kernel)
set_option maxRecDepth 20000 in
theorem gX10_rock_X10_throwsIf : GoodIn wsX10_rock (wsV RX10 141 RX10 yX10_throwsIf wsX10_throwsIf) := goodIn_app (goodIn_of _ (by decide +kernel)) ggX10_rock_X10_throwsIf
set_option maxRecDepth 20000 in
theorem ggX10_rock_X10_in : GoodIn wsX10_rock wsX10_in := goodIn_r _ [17] (by decide +kernel) (by decide +kernel)
set_option maxRecDepth 20000 in
theorem gX10_rock_X10_in : GoodIn wsX10_rock (va_wsS RX10 133 yX10_in wsX10_in) := goodIn_app (goodIn_of _ (by decide +kernel)) ggX10_rock_X10_in
theorem dX10_rock_0 : decode cX10_rock 0 = .ok (.aload_n 0, 1) := by decide +kernel
theorem dX10_rock_1 : decode cX10_rock 1 = .ok (.iconst 0, 1) := by decide +kernel
theorem dX10_rock_2 : decode cX10_rock 2 = .ok (.putfield 127, 3) := by decide +kernel
theorem dX10_rock_5 : decode cX10_rock 5 = .ok (.aload_n 0, 1) := by decide +kernel
theorem dX10_rock_6 : decode cX10_rock 6 = .ok (.aload_n 0, 1) := by decide +kernel
theorem dX10_rock_7 : decode cX10_rock 7 = .ok (.iload_n 1, 1) := by decide +kernel
theorem dX10_rock_8 : decode cX10_rock 8 = .ok (.invokevirtual 137, 3) := by decide +kernel
theorem dX10_rock_11 : decode cX10_rock 11 = .ok (.iconst 1, 1) := by decide +kernel
theorem dX10_rock_12 : decode cX10_rock 12 = .ok (.invokevirtual 141, 3) := by decide +kernel
theorem dX10_rock_15 : decode cX10_rock 15 = .ok (.ifCond .ne 60, 3) := by decide +kernel
theorem dX10_rock_18 : decode cX10_rock 18 = .ok (.aload_n 0, 1) := by decide +kernel
theorem dX10_rock_19 : decode cX10_rock 19 = .ok (.iload_n 2, 1) := by decide +kernel
theorem dX10_rock_20 : decode cX10_rock 20 = .ok (.iconst 0, 1) := by decide +kernel
theorem dX10_rock_21 : decode cX10_rock 21 = .ok (.bipush 9, 2) := by decide +kernel
theorem dX10_rock_23 : decode cX10_rock 23 = .ok (.invokestatic 133, 3) := by decide +kernel
theorem dX10_rock_26 : decode cX10_rock 26 = .ok (.ifCond .eq 14, 3) := by decide +kernel
theorem dX10_rock_29 : decode cX10_rock 29 = .ok (.iload_n 3, 1) := by decide +kernel
theorem dX10_rock_30 : decode cX10_rock 30 = .ok (.iconst 1, 1) := by decide +kernel
theorem dX10_rock_31 : decode cX10_rock 31 = .ok (.sipush 1000, 3) := by decide +kernel
theorem dX10_rock_34 : decode cX10_rock 34 = .ok (.invokestatic 133, 3) := by decide +kernel
theorem dX10_rock_37 : decode cX10_rock 37 = .ok (.ifCond .ne 7, 3) := by decide +kernel
theorem dX10_rock_40 : decode cX10_rock 40 = .ok (.iconst 1, 1) := by decide +kernel
theorem dX10_rock_41 : decode cX10_rock 41 = .ok (.goto 4, 3) := by decide +kernel
theorem dX10_rock_44 : decode cX10_rock 44 = .ok (.iconst 0, 1) := by decide +kernel
theorem dX10_rock_45 : decode cX10_rock 45 = .ok (.iconst 2, 1) := by decide +kernel
theorem dX10_rock_46 : decode cX10_rock 46 = .ok (.invokevirtual 141, 3) := by decide +kernel
theorem dX10_rock_49 : decode cX10_rock 49 = .ok (.ifCond .ne 26, 3) := by decide +kernel
theorem dX10_rock_52 : decode cX10_rock 52 = .ok (.aload_n 0, 1) := by decide +kernel
theorem dX10_rock_53 : decode cX10_rock 53 = .ok (.aload_n 0, 1) := by decide +kernel
theorem dX10_rock_54 : decode cX10_rock 54 = .ok (.getfield 37, 3) := by decide +kernel
theorem dX10_rock_57 : decode cX10_rock 57 = .ok (.iload_n 1, 1) := by decide +kernel
theorem dX10_rock_58 : decode cX10_rock 58 = .ok (.iaload, 1) := by decide +kernel
theorem dX10_rock_59 : decode cX10_rock 59 = .ok (.iconst 4, 1) := by decide +kernel
theorem dX10_rock_60 : decode cX10_rock 60 = .ok (.if_icmp .ne 7, 3) := by decide +kernel
theorem dX10_rock_63 : decode cX10_rock 63 = .ok (.iconst 1, 1) := by decide +kernel
theorem dX10_rock_64 : decode cX10_rock 64 = .ok (.goto 4, 3) := by decide +kernel
theorem dX10_rock_67 : decode cX10_rock 67 = .ok (.iconst 0, 1) := by decide +kernel
theorem dX10_rock_68 : decode cX10_rock 68 = .ok (.iconst 3, 1) := by decide +kernel
theorem dX10_rock_69 : decode cX10_rock 69 = .ok (.invokevirtual 141, 3) := by decide +kernel
theorem dX10_rock_72 : decode cX10_rock 72 = .ok (.ifCond .eq 5, 3) := by decide +kernel
theorem dX10_rock_75 : decode cX10_rock 75 = .ok (.iconst 0, 1) := by decide +kernel
theorem dX10_rock_76 : decode cX10_rock 76 = .ok (.ireturn, 1) := by decide +kernel
theorem dX10_rock_77 : decode cX10_rock 77 = .ok (.iconst 4, 1) := by decide +kernel
theorem dX10_rock_78 : decode cX10_rock 78 = .ok (.iload_n 1, 1) := by decide +kernel
theorem dX10_rock_79 : decode cX10_rock 79 = .ok (.imul, 1) := by decide +kernel
theorem dX10_rock_80 : decode cX10_rock 80 = .ok (.aload_n 0, 1) := by decide +kernel
theorem dX10_rock_81 : decode cX10_rock 81 = .ok (.getfield 37, 3) := by decide +kernel
theorem dX10_rock_84 : decode cX10_rock 84 = .ok (.iload_n 1, 1) := by decide +kernel
theorem dX10_rock_85 : decode cX10_rock 85 = .ok (.iaload, 1) := by decide +kernel
theorem dX10_rock_86 : decode cX10_rock 86 = .ok (.iadd, 1) := by decide +kernel
theorem dX10_rock_87 : decode cX10_rock 87 = .ok (.istore 4, 2) := by decide +kernel
theorem dX10_rock_89 : decode cX10_rock 89 = .ok (.aload_n 0, 1) := by decide +kernel
theorem dX10_rock_90 : decode cX10_rock 90 = .ok (.getfield 9, 3) := by decide +kernel
theorem dX10_rock_93 : decode cX10_rock 93 = .ok (.iload 4, 2) := by decide +kernel
theorem dX10_rock_95 : decode cX10_rock 95 = .ok (.iload_n 2, 1) := by decide +kernel
theorem dX10_rock_96 : decode cX10_rock 96 = .ok (.iastore, 1) := by decide +kernel
theorem dX10_rock_97 : decode cX10_rock 97 = .ok (.aload_n 0, 1) := by decide +kernel
theorem dX10_rock_98 : decode cX10_rock 98 = .ok (.getfield 13, 3) := by decide +kernel
theorem dX10_rock_101 : decode cX10_rock 101 = .ok (.iload 4, 2) := by decide +kernel
theorem dX10_rock_103 : decode cX10_rock 103 = .ok (.iload_n 3, 1) := by decide +kernel
theorem dX10_rock_104 : decode cX10_rock 104 = .ok (.iastore, 1) := by decide +kernel
theorem dX10_rock_105 : decode cX10_rock 105 = .ok (.aload_n 0, 1) := by decide +kernel
theorem dX10_rock_106 : decode cX10_rock 106 = .ok (.getfield 16, 3) := by decide +kernel
theorem dX10_rock_109 : decode cX10_rock 109 = .ok (.iload 4, 2) := by decide +kernel
theorem dX10_rock_111 : decode cX10_rock 111 = .ok (.iload_n 3, 1) := by decide +kernel
theorem dX10_rock_112 : decode cX10_rock 112 = .ok (.iastore, 1) := by decide +kernel
theorem dX10_rock_113 : decode cX10_rock 113 = .ok (.aload_n 0, 1) := by decide +kernel
theorem dX10_rock_114 : decode cX10_rock 114 = .ok (.getfield 22, 3) := by decide +kernel
theorem dX10_rock_117 : decode cX10_rock 117 = .ok (.iload 4, 2) := by decide +kernel
theorem dX10_rock_119 : decode cX10_rock 119 = .ok (.iload_n 3, 1) := by decide +kernel
theorem dX10_rock_120 : decode cX10_rock 120 = .ok (.iastore, 1) := by decide +kernel
theorem dX10_rock_121 : decode cX10_rock 121 = .ok (.aload_n 0, 1) := by decide +kernel
theorem dX10_rock_122 : decode cX10_rock 122 = .ok (.getfield 19, 3) := by decide +kernel
theorem dX10_rock_125 : decode cX10_rock 125 = .ok (.iload 4, 2) := by decide +kernel
theorem dX10_rock_127 : decode cX10_rock 127 = .ok (.iconst (-1), 1) := by decide +kernel
theorem dX10_rock_128 : decode cX10_rock 128 = .ok (.iastore, 1) := by decide +kernel
theorem dX10_rock_129 : decode cX10_rock 129 = .ok (.aload_n 0, 1) := by decide +kernel
theorem dX10_rock_130 : decode cX10_rock 130 = .ok (.getfield 34, 3) := by decide +kernel
theorem dX10_rock_133 : decode cX10_rock 133 = .ok (.iload 4, 2) := by decide +kernel
theorem dX10_rock_135 : decode cX10_rock 135 = .ok (.iconst (-1), 1) := by decide +kernel
theorem dX10_rock_136 : decode cX10_rock 136 = .ok (.iastore, 1) := by decide +kernel
theorem dX10_rock_137 : decode cX10_rock 137 = .ok (.aload_n 0, 1) := by decide +kernel
theorem dX10_rock_138 : decode cX10_rock 138 = .ok (.getfield 37, 3) := by decide +kernel
theorem dX10_rock_141 : decode cX10_rock 141 = .ok (.iload_n 1, 1) := by decide +kernel
theorem dX10_rock_142 : decode cX10_rock 142 = .ok (.dup2, 1) := by decide +kernel
theorem dX10_rock_143 : decode cX10_rock 143 = .ok (.iaload, 1) := by decide +kernel
theorem dX10_rock_144 : decode cX10_rock 144 = .ok (.iconst 1, 1) := by decide +kernel
theorem dX10_rock_145 : decode cX10_rock 145 = .ok (.iadd, 1) := by decide +kernel
theorem dX10_rock_146 : decode cX10_rock 146 = .ok (.iastore, 1) := by decide +kernel
theorem dX10_rock_147 : decode cX10_rock 147 = .ok (.aload_n 0, 1) := by decide +kernel
theorem dX10_rock_148 : decode cX10_rock 148 = .ok (.getfield 37, 3) := by decide +kernel
theorem dX10_rock_151 : decode cX10_rock 151 = .ok (.iload_n 1, 1) := by decide +kernel
theorem dX10_rock_152 : decode cX10_rock 152 = .ok (.iaload, 1) := by decide +kernel
theorem dX10_rock_153 : decode cX10_rock 153 = .ok (.iconst 1, 1) := by decide +kernel
theorem dX10_rock_154 : decode cX10_rock 154 = .ok (.isub, 1) := by decide +kernel
theorem dX10_rock_155 : decode cX10_rock 155 = .ok (.ireturn, 1) := by decide +kernel
set_option maxRecDepth 20000 in
theorem ggX10_hands_X10_noFamily : GoodIn wsX10_hands wsX10_noFamily := goodIn_r _ [6, 7, 8, 5, 9] (by decide +kernel) (by decide +kernel)
set_option maxRecDepth 20000 in
theorem gX10_hands_X10_noFamily : GoodIn wsX10_hands (va_wsS RX10 145 yX10_noFamily wsX10_noFamily) := goodIn_app (goodIn_of _ (by decide +kernel)) ggX10_hands_X10_noFamily
set_option maxRecDepth 20000 in
theorem ggX10_hands_X10_throwsIf : GoodIn wsX10_hands wsX10_throwsIf := goodIn_r _ [13, 1, 14, 15, 16, 17, 18, 19, 20, 21, 22, 23, 24, 25, 26, 27, 28, 29, 30, 31, 32, 33, 34, 35, 36, 37, 38, 39, 40, 41, 42, 43, 44, 45, 46, 47, 48, 49, 50, 51, 52, 53, 54, 55, 56, 57, 58, 59, 60, 61, 62, 63, 64, 65, 66] (by decide +kernel) (by decide +kernel)
set_option maxRecDepth 20000 in
theorem gX10_hands_X10_throwsIf : GoodIn wsX10_hands (wsV RX10 141 RX10 yX10_throwsIf wsX10_throwsIf) := goodIn_app (goodIn_of _ (by decide +kernel)) ggX10_hands_X10_throwsIf
set_option maxRecDepth 20000 in
theorem ggX10_hands_X10_in : GoodIn wsX10_hands wsX10_in := goodIn_r _ [9] (by decide +kernel) (by decide +kernel)
set_option maxRecDepth 20000 in
theorem gX10_hands_X10_in : GoodIn wsX10_hands (va_wsS RX10 133 yX10_in wsX10_in) := goodIn_app (goodIn_of _ (by decide +kernel)) ggX10_hands_X10_in
theorem dX10_hands_0 : decode cX10_hands 0 = .ok (.aload_n 0, 1) := by decide +kernel
theorem dX10_hands_1 : decode cX10_hands 1 = .ok (.iconst 0, 1) := by decide +kernel
theorem dX10_hands_2 : decode cX10_hands 2 = .ok (.putfield 127, 3) := by decide +kernel
theorem dX10_hands_5 : decode cX10_hands 5 = .ok (.aload_n 0, 1) := by decide +kernel
theorem dX10_hands_6 : decode cX10_hands 6 = .ok (.iload_n 1, 1) := by decide +kernel
theorem dX10_hands_7 : decode cX10_hands 7 = .ok (.invokestatic 145, 3) := by decide +kernel
theorem dX10_hands_10 : decode cX10_hands 10 = .ok (.iconst 1, 1) := by decide +kernel
theorem dX10_hands_11 : decode cX10_hands 11 = .ok (.invokevirtual 141, 3) := by decide +kernel
theorem dX10_hands_14 : decode cX10_hands 14 = .ok (.ifCond .ne 26, 3) := by decide +kernel
theorem dX10_hands_17 : decode cX10_hands 17 = .ok (.aload_n 0, 1) := by decide +kernel
theorem dX10_hands_18 : decode cX10_hands 18 = .ok (.iload_n 2, 1) := by decide +kernel
theorem dX10_hands_19 : decode cX10_hands 19 = .ok (.iconst 0, 1) := by decide +kernel
theorem dX10_hands_20 : decode cX10_hands 20 = .ok (.bipush 20, 2) := by decide +kernel
theorem dX10_hands_22 : decode cX10_hands 22 = .ok (.invokestatic 133, 3) := by decide +kernel
theorem dX10_hands_25 : decode cX10_hands 25 = .ok (.ifCond .ne 7, 3) := by decide +kernel
theorem dX10_hands_28 : decode cX10_hands 28 = .ok (.iconst 1, 1) := by decide +kernel
theorem dX10_hands_29 : decode cX10_hands 29 = .ok (.goto 4, 3) := by decide +kernel
theorem dX10_hands_32 : decode cX10_hands 32 = .ok (.iconst 0, 1) := by decide +kernel
theorem dX10_hands_33 : decode cX10_hands 33 = .ok (.iconst 2, 1) := by decide +kernel
theorem dX10_hands_34 : decode cX10_hands 34 = .ok (.invokevirtual 141, 3) := by decide +kernel
theorem dX10_hands_37 : decode cX10_hands 37 = .ok (.ifCond .eq 4, 3) := by decide +kernel
theorem dX10_hands_40 : decode cX10_hands 40 = .ok (.return_, 1) := by decide +kernel
theorem dX10_hands_41 : decode cX10_hands 41 = .ok (.aload_n 0, 1) := by decide +kernel
theorem dX10_hands_42 : decode cX10_hands 42 = .ok (.getfield 43, 3) := by decide +kernel
theorem dX10_hands_45 : decode cX10_hands 45 = .ok (.iload_n 1, 1) := by decide +kernel
theorem dX10_hands_46 : decode cX10_hands 46 = .ok (.iload_n 2, 1) := by decide +kernel
theorem dX10_hands_47 : decode cX10_hands 47 = .ok (.iastore, 1) := by decide +kernel
theorem dX10_hands_48 : decode cX10_hands 48 = .ok (.return_, 1) := by decide +kernel
theorem dX10_shoreDay_0 : decode cX10_shoreDay 0 = .ok (.iconst 4, 1) := by decide +kernel
theorem dX10_shoreDay_1 : decode cX10_shoreDay 1 = .ok (.iload_n 1, 1) := by decide +kernel
theorem dX10_shoreDay_2 : decode cX10_shoreDay 2 = .ok (.imul, 1) := by decide +kernel
theorem dX10_shoreDay_3 : decode cX10_shoreDay 3 = .ok (.istore_n 3, 1) := by decide +kernel
theorem dX10_shoreDay_4 : decode cX10_shoreDay 4 = .ok (.iload_n 3, 1) := by decide +kernel
theorem dX10_shoreDay_5 : decode cX10_shoreDay 5 = .ok (.iconst 4, 1) := by decide +kernel
theorem dX10_shoreDay_6 : decode cX10_shoreDay 6 = .ok (.iload_n 1, 1) := by decide +kernel
theorem dX10_shoreDay_7 : decode cX10_shoreDay 7 = .ok (.imul, 1) := by decide +kernel
theorem dX10_shoreDay_8 : decode cX10_shoreDay 8 = .ok (.aload_n 0, 1) := by decide +kernel
theorem dX10_shoreDay_9 : decode cX10_shoreDay 9 = .ok (.getfield 37, 3) := by decide +kernel
theorem dX10_shoreDay_12 : decode cX10_shoreDay 12 = .ok (.iload_n 1, 1) := by decide +kernel
theorem dX10_shoreDay_13 : decode cX10_shoreDay 13 = .ok (.iaload, 1) := by decide +kernel
theorem dX10_shoreDay_14 : decode cX10_shoreDay 14 = .ok (.iadd, 1) := by decide +kernel
theorem dX10_shoreDay_15 : decode cX10_shoreDay 15 = .ok (.if_icmp .ge 119, 3) := by decide +kernel
theorem dX10_shoreDay_18 : decode cX10_shoreDay 18 = .ok (.aload_n 0, 1) := by decide +kernel
theorem dX10_shoreDay_19 : decode cX10_shoreDay 19 = .ok (.getfield 148, 3) := by decide +kernel
theorem dX10_shoreDay_22 : decode cX10_shoreDay 22 = .ok (.bipush 100, 2) := by decide +kernel
theorem dX10_shoreDay_24 : decode cX10_shoreDay 24 = .ok (.irem, 1) := by decide +kernel
theorem dX10_shoreDay_25 : decode cX10_shoreDay 25 = .ok (.ifCond .ne 44, 3) := by decide +kernel
theorem dX10_shoreDay_28 : decode cX10_shoreDay 28 = .ok (.aload_n 0, 1) := by decide +kernel
theorem dX10_shoreDay_29 : decode cX10_shoreDay 29 = .ok (.getfield 13, 3) := by decide +kernel
theorem dX10_shoreDay_32 : decode cX10_shoreDay 32 = .ok (.iload_n 3, 1) := by decide +kernel
theorem dX10_shoreDay_33 : decode cX10_shoreDay 33 = .ok (.iaload, 1) := by decide +kernel
theorem dX10_shoreDay_34 : decode cX10_shoreDay 34 = .ok (.aload_n 0, 1) := by decide +kernel
theorem dX10_shoreDay_35 : decode cX10_shoreDay 35 = .ok (.getfield 16, 3) := by decide +kernel
theorem dX10_shoreDay_38 : decode cX10_shoreDay 38 = .ok (.iload_n 3, 1) := by decide +kernel
theorem dX10_shoreDay_39 : decode cX10_shoreDay 39 = .ok (.iaload, 1) := by decide +kernel
theorem dX10_shoreDay_40 : decode cX10_shoreDay 40 = .ok (.isub, 1) := by decide +kernel
theorem dX10_shoreDay_41 : decode cX10_shoreDay 41 = .ok (.iconst 3, 1) := by decide +kernel
theorem dX10_shoreDay_42 : decode cX10_shoreDay 42 = .ok (.iadd, 1) := by decide +kernel
theorem dX10_shoreDay_43 : decode cX10_shoreDay 43 = .ok (.iconst 4, 1) := by decide +kernel
theorem dX10_shoreDay_44 : decode cX10_shoreDay 44 = .ok (.idiv, 1) := by decide +kernel
theorem dX10_shoreDay_45 : decode cX10_shoreDay 45 = .ok (.istore 4, 2) := by decide +kernel
theorem dX10_shoreDay_47 : decode cX10_shoreDay 47 = .ok (.aload_n 0, 1) := by decide +kernel
theorem dX10_shoreDay_48 : decode cX10_shoreDay 48 = .ok (.getfield 16, 3) := by decide +kernel
theorem dX10_shoreDay_51 : decode cX10_shoreDay 51 = .ok (.iload_n 3, 1) := by decide +kernel
theorem dX10_shoreDay_52 : decode cX10_shoreDay 52 = .ok (.dup2, 1) := by decide +kernel
theorem dX10_shoreDay_53 : decode cX10_shoreDay 53 = .ok (.iaload, 1) := by decide +kernel
theorem dX10_shoreDay_54 : decode cX10_shoreDay 54 = .ok (.iload 4, 2) := by decide +kernel
theorem dX10_shoreDay_56 : decode cX10_shoreDay 56 = .ok (.iadd, 1) := by decide +kernel
theorem dX10_shoreDay_57 : decode cX10_shoreDay 57 = .ok (.iastore, 1) := by decide +kernel
theorem dX10_shoreDay_58 : decode cX10_shoreDay 58 = .ok (.aload_n 0, 1) := by decide +kernel
theorem dX10_shoreDay_59 : decode cX10_shoreDay 59 = .ok (.getfield 22, 3) := by decide +kernel
theorem dX10_shoreDay_62 : decode cX10_shoreDay 62 = .ok (.iload_n 3, 1) := by decide +kernel
theorem dX10_shoreDay_63 : decode cX10_shoreDay 63 = .ok (.dup2, 1) := by decide +kernel
theorem dX10_shoreDay_64 : decode cX10_shoreDay 64 = .ok (.iaload, 1) := by decide +kernel
theorem dX10_shoreDay_65 : decode cX10_shoreDay 65 = .ok (.iload 4, 2) := by decide +kernel
theorem dX10_shoreDay_67 : decode cX10_shoreDay 67 = .ok (.iadd, 1) := by decide +kernel
theorem dX10_shoreDay_68 : decode cX10_shoreDay 68 = .ok (.iastore, 1) := by decide +kernel
theorem dX10_shoreDay_69 : decode cX10_shoreDay 69 = .ok (.aload_n 0, 1) := by decide +kernel
theorem dX10_shoreDay_70 : decode cX10_shoreDay 70 = .ok (.getfield 9, 3) := by decide +kernel
theorem dX10_shoreDay_73 : decode cX10_shoreDay 73 = .ok (.iload_n 3, 1) := by decide +kernel
theorem dX10_shoreDay_74 : decode cX10_shoreDay 74 = .ok (.iaload, 1) := by decide +kernel
theorem dX10_shoreDay_75 : decode cX10_shoreDay 75 = .ok (.iload_n 2, 1) := by decide +kernel
theorem dX10_shoreDay_76 : decode cX10_shoreDay 76 = .ok (.if_icmp .le 6, 3) := by decide +kernel
theorem dX10_shoreDay_79 : decode cX10_shoreDay 79 = .ok (.goto 49, 3) := by decide +kernel
theorem dX10_shoreDay_82 : decode cX10_shoreDay 82 = .ok (.aload_n 0, 1) := by decide +kernel
theorem dX10_shoreDay_83 : decode cX10_shoreDay 83 = .ok (.getfield 16, 3) := by decide +kernel
theorem dX10_shoreDay_86 : decode cX10_shoreDay 86 = .ok (.iload_n 3, 1) := by decide +kernel
theorem dX10_shoreDay_87 : decode cX10_shoreDay 87 = .ok (.iaload, 1) := by decide +kernel
theorem dX10_shoreDay_88 : decode cX10_shoreDay 88 = .ok (.iload_n 2, 1) := by decide +kernel
theorem dX10_shoreDay_89 : decode cX10_shoreDay 89 = .ok (.imul, 1) := by decide +kernel
theorem dX10_shoreDay_90 : decode cX10_shoreDay 90 = .ok (.bipush 100, 2) := by decide +kernel
theorem dX10_shoreDay_92 : decode cX10_shoreDay 92 = .ok (.idiv, 1) := by decide +kernel
theorem dX10_shoreDay_93 : decode cX10_shoreDay 93 = .ok (.istore 4, 2) := by decide +kernel
theorem dX10_shoreDay_95 : decode cX10_shoreDay 95 = .ok (.aload_n 0, 1) := by decide +kernel
theorem dX10_shoreDay_96 : decode cX10_shoreDay 96 = .ok (.getfield 16, 3) := by decide +kernel
theorem dX10_shoreDay_99 : decode cX10_shoreDay 99 = .ok (.iload_n 3, 1) := by decide +kernel
theorem dX10_shoreDay_100 : decode cX10_shoreDay 100 = .ok (.dup2, 1) := by decide +kernel
theorem dX10_shoreDay_101 : decode cX10_shoreDay 101 = .ok (.iaload, 1) := by decide +kernel
theorem dX10_shoreDay_102 : decode cX10_shoreDay 102 = .ok (.iload 4, 2) := by decide +kernel
theorem dX10_shoreDay_104 : decode cX10_shoreDay 104 = .ok (.isub, 1) := by decide +kernel
theorem dX10_shoreDay_105 : decode cX10_shoreDay 105 = .ok (.iastore, 1) := by decide +kernel
theorem dX10_shoreDay_106 : decode cX10_shoreDay 106 = .ok (.aload_n 0, 1) := by decide +kernel
theorem dX10_shoreDay_107 : decode cX10_shoreDay 107 = .ok (.getfield 28, 3) := by decide +kernel
theorem dX10_shoreDay_110 : decode cX10_shoreDay 110 = .ok (.iload_n 3, 1) := by decide +kernel
theorem dX10_shoreDay_111 : decode cX10_shoreDay 111 = .ok (.dup2, 1) := by decide +kernel
theorem dX10_shoreDay_112 : decode cX10_shoreDay 112 = .ok (.iaload, 1) := by decide +kernel
theorem dX10_shoreDay_113 : decode cX10_shoreDay 113 = .ok (.iload 4, 2) := by decide +kernel
theorem dX10_shoreDay_115 : decode cX10_shoreDay 115 = .ok (.iadd, 1) := by decide +kernel
theorem dX10_shoreDay_116 : decode cX10_shoreDay 116 = .ok (.iastore, 1) := by decide +kernel
theorem dX10_shoreDay_117 : decode cX10_shoreDay 117 = .ok (.aload_n 0, 1) := by decide +kernel
theorem dX10_shoreDay_118 : decode cX10_shoreDay 118 = .ok (.getfield 40, 3) := by decide +kernel
theorem dX10_shoreDay_121 : decode cX10_shoreDay 121 = .ok (.iload_n 1, 1) := by decide +kernel
theorem dX10_shoreDay_122 : decode cX10_shoreDay 122 = .ok (.dup2, 1) := by decide +kernel
theorem dX10_shoreDay_123 : decode cX10_shoreDay 123 = .ok (.iaload, 1) := by decide +kernel
theorem dX10_shoreDay_124 : decode cX10_shoreDay 124 = .ok (.iload 4, 2) := by decide +kernel
theorem dX10_shoreDay_126 : decode cX10_shoreDay 126 = .ok (.iadd, 1) := by decide +kernel
theorem dX10_shoreDay_127 : decode cX10_shoreDay 127 = .ok (.iastore, 1) := by decide +kernel
theorem dX10_shoreDay_128 : decode cX10_shoreDay 128 = .ok (.iinc 3 1, 3) := by decide +kernel
theorem dX10_shoreDay_131 : decode cX10_shoreDay 131 = .ok (.goto (-127), 3) := by decide +kernel
theorem dX10_shoreDay_134 : decode cX10_shoreDay 134 = .ok (.return_, 1) := by decide +kernel
theorem dX10_familyDay_0 : decode cX10_familyDay 0 = .ok (.iload_n 3, 1) := by decide +kernel
theorem dX10_familyDay_1 : decode cX10_familyDay 1 = .ok (.iconst 5, 1) := by decide +kernel
theorem dX10_familyDay_2 : decode cX10_familyDay 2 = .ok (.if_icmp .lt 39, 3) := by decide +kernel
theorem dX10_familyDay_5 : decode cX10_familyDay 5 = .ok (.aload_n 0, 1) := by decide +kernel
theorem dX10_familyDay_6 : decode cX10_familyDay 6 = .ok (.getfield 49, 3) := by decide +kernel
theorem dX10_familyDay_9 : decode cX10_familyDay 9 = .ok (.iload_n 1, 1) := by decide +kernel
theorem dX10_familyDay_10 : decode cX10_familyDay 10 = .ok (.iaload, 1) := by decide +kernel
theorem dX10_familyDay_11 : decode cX10_familyDay 11 = .ok (.bipush 9, 2) := by decide +kernel
theorem dX10_familyDay_13 : decode cX10_familyDay 13 = .ok (.iadd, 1) := by decide +kernel
theorem dX10_familyDay_14 : decode cX10_familyDay 14 = .ok (.bipush 10, 2) := by decide +kernel
theorem dX10_familyDay_16 : decode cX10_familyDay 16 = .ok (.idiv, 1) := by decide +kernel
theorem dX10_familyDay_17 : decode cX10_familyDay 17 = .ok (.istore 4, 2) := by decide +kernel
theorem dX10_familyDay_19 : decode cX10_familyDay 19 = .ok (.aload_n 0, 1) := by decide +kernel
theorem dX10_familyDay_20 : decode cX10_familyDay 20 = .ok (.getfield 49, 3) := by decide +kernel
theorem dX10_familyDay_23 : decode cX10_familyDay 23 = .ok (.iload_n 1, 1) := by decide +kernel
theorem dX10_familyDay_24 : decode cX10_familyDay 24 = .ok (.dup2, 1) := by decide +kernel
theorem dX10_familyDay_25 : decode cX10_familyDay 25 = .ok (.iaload, 1) := by decide +kernel
theorem dX10_familyDay_26 : decode cX10_familyDay 26 = .ok (.iload 4, 2) := by decide +kernel
theorem dX10_familyDay_28 : decode cX10_familyDay 28 = .ok (.isub, 1) := by decide +kernel
theorem dX10_familyDay_29 : decode cX10_familyDay 29 = .ok (.iastore, 1) := by decide +kernel
theorem dX10_familyDay_30 : decode cX10_familyDay 30 = .ok (.aload_n 0, 1) := by decide +kernel
theorem dX10_familyDay_31 : decode cX10_familyDay 31 = .ok (.getfield 58, 3) := by decide +kernel
theorem dX10_familyDay_34 : decode cX10_familyDay 34 = .ok (.iload_n 1, 1) := by decide +kernel
theorem dX10_familyDay_35 : decode cX10_familyDay 35 = .ok (.dup2, 1) := by decide +kernel
theorem dX10_familyDay_36 : decode cX10_familyDay 36 = .ok (.iaload, 1) := by decide +kernel
theorem dX10_familyDay_37 : decode cX10_familyDay 37 = .ok (.iload 4, 2) := by decide +kernel
theorem dX10_familyDay_39 : decode cX10_familyDay 39 = .ok (.iadd, 1) := by decide +kernel
theorem dX10_familyDay_40 : decode cX10_familyDay 40 = .ok (.iastore, 1) := by decide +kernel
theorem dX10_familyDay_41 : decode cX10_familyDay 41 = .ok (.iload_n 3, 1) := by decide +kernel
theorem dX10_familyDay_42 : decode cX10_familyDay 42 = .ok (.ifCond .le 4, 3) := by decide +kernel
theorem dX10_familyDay_45 : decode cX10_familyDay 45 = .ok (.return_, 1) := by decide +kernel
theorem dX10_familyDay_46 : decode cX10_familyDay 46 = .ok (.aload_n 0, 1) := by decide +kernel
theorem dX10_familyDay_47 : decode cX10_familyDay 47 = .ok (.getfield 46, 3) := by decide +kernel
theorem dX10_familyDay_50 : decode cX10_familyDay 50 = .ok (.iload_n 1, 1) := by decide +kernel
theorem dX10_familyDay_51 : decode cX10_familyDay 51 = .ok (.iaload, 1) := by decide +kernel
theorem dX10_familyDay_52 : decode cX10_familyDay 52 = .ok (.i2l, 1) := by decide +kernel
theorem dX10_familyDay_53 : decode cX10_familyDay 53 = .ok (.iload_n 2, 1) := by decide +kernel
theorem dX10_familyDay_54 : decode cX10_familyDay 54 = .ok (.i2l, 1) := by decide +kernel
theorem dX10_familyDay_55 : decode cX10_familyDay 55 = .ok (.lmul, 1) := by decide +kernel
theorem dX10_familyDay_56 : decode cX10_familyDay 56 = .ok (.ldc2_w 151, 3) := by decide +kernel
theorem dX10_familyDay_59 : decode cX10_familyDay 59 = .ok (.ldiv, 1) := by decide +kernel
theorem dX10_familyDay_60 : decode cX10_familyDay 60 = .ok (.ldc2_w 153, 3) := by decide +kernel
theorem dX10_familyDay_63 : decode cX10_familyDay 63 = .ok (.ldiv, 1) := by decide +kernel
theorem dX10_familyDay_64 : decode cX10_familyDay 64 = .ok (.l2i, 1) := by decide +kernel
theorem dX10_familyDay_65 : decode cX10_familyDay 65 = .ok (.istore 4, 2) := by decide +kernel
theorem dX10_familyDay_67 : decode cX10_familyDay 67 = .ok (.aload_n 0, 1) := by decide +kernel
theorem dX10_familyDay_68 : decode cX10_familyDay 68 = .ok (.getfield 46, 3) := by decide +kernel
theorem dX10_familyDay_71 : decode cX10_familyDay 71 = .ok (.iload_n 1, 1) := by decide +kernel
theorem dX10_familyDay_72 : decode cX10_familyDay 72 = .ok (.dup2, 1) := by decide +kernel
theorem dX10_familyDay_73 : decode cX10_familyDay 73 = .ok (.iaload, 1) := by decide +kernel
theorem dX10_familyDay_74 : decode cX10_familyDay 74 = .ok (.iconst 4, 1) := by decide +kernel
theorem dX10_familyDay_75 : decode cX10_familyDay 75 = .ok (.iload 4, 2) := by decide +kernel
theorem dX10_familyDay_77 : decode cX10_familyDay 77 = .ok (.imul, 1) := by decide +kernel
theorem dX10_familyDay_78 : decode cX10_familyDay 78 = .ok (.isub, 1) := by decide +kernel
theorem dX10_familyDay_79 : decode cX10_familyDay 79 = .ok (.iastore, 1) := by decide +kernel
theorem dX10_familyDay_80 : decode cX10_familyDay 80 = .ok (.aload_n 0, 1) := by decide +kernel
theorem dX10_familyDay_81 : decode cX10_familyDay 81 = .ok (.getfield 49, 3) := by decide +kernel
theorem dX10_familyDay_84 : decode cX10_familyDay 84 = .ok (.iload_n 1, 1) := by decide +kernel
theorem dX10_familyDay_85 : decode cX10_familyDay 85 = .ok (.dup2, 1) := by decide +kernel
theorem dX10_familyDay_86 : decode cX10_familyDay 86 = .ok (.iaload, 1) := by decide +kernel
theorem dX10_familyDay_87 : decode cX10_familyDay 87 = .ok (.iload 4, 2) := by decide +kernel
theorem dX10_familyDay_89 : decode cX10_familyDay 89 = .ok (.iadd, 1) := by decide +kernel
theorem dX10_familyDay_90 : decode cX10_familyDay 90 = .ok (.iastore, 1) := by decide +kernel
theorem dX10_familyDay_91 : decode cX10_familyDay 91 = .ok (.return_, 1) := by decide +kernel
theorem dX10_pitDay_0 : decode cX10_pitDay 0 = .ok (.aload_n 0, 1) := by decide +kernel
theorem dX10_pitDay_1 : decode cX10_pitDay 1 = .ok (.getfield 73, 3) := by decide +kernel
theorem dX10_pitDay_4 : decode cX10_pitDay 4 = .ok (.iload_n 1, 1) := by decide +kernel
theorem dX10_pitDay_5 : decode cX10_pitDay 5 = .ok (.iaload, 1) := by decide +kernel
theorem dX10_pitDay_6 : decode cX10_pitDay 6 = .ok (.ifCond .ne 4, 3) := by decide +kernel
theorem dX10_pitDay_9 : decode cX10_pitDay 9 = .ok (.return_, 1) := by decide +kernel
theorem dX10_pitDay_10 : decode cX10_pitDay 10 = .ok (.aload_n 0, 1) := by decide +kernel
theorem dX10_pitDay_11 : decode cX10_pitDay 11 = .ok (.getfield 67, 3) := by decide +kernel
theorem dX10_pitDay_14 : decode cX10_pitDay 14 = .ok (.iload_n 1, 1) := by decide +kernel
theorem dX10_pitDay_15 : decode cX10_pitDay 15 = .ok (.iaload, 1) := by decide +kernel
theorem dX10_pitDay_16 : decode cX10_pitDay 16 = .ok (.istore_n 3, 1) := by decide +kernel
theorem dX10_pitDay_17 : decode cX10_pitDay 17 = .ok (.iload_n 2, 1) := by decide +kernel
theorem dX10_pitDay_18 : decode cX10_pitDay 18 = .ok (.iconst 3, 1) := by decide +kernel
theorem dX10_pitDay_19 : decode cX10_pitDay 19 = .ok (.if_icmp .lt 52, 3) := by decide +kernel
theorem dX10_pitDay_22 : decode cX10_pitDay 22 = .ok (.aload_n 0, 1) := by decide +kernel
theorem dX10_pitDay_23 : decode cX10_pitDay 23 = .ok (.getfield 49, 3) := by decide +kernel
theorem dX10_pitDay_26 : decode cX10_pitDay 26 = .ok (.iload_n 3, 1) := by decide +kernel
theorem dX10_pitDay_27 : decode cX10_pitDay 27 = .ok (.dup2, 1) := by decide +kernel
theorem dX10_pitDay_28 : decode cX10_pitDay 28 = .ok (.iaload, 1) := by decide +kernel
theorem dX10_pitDay_29 : decode cX10_pitDay 29 = .ok (.aload_n 0, 1) := by decide +kernel
theorem dX10_pitDay_30 : decode cX10_pitDay 30 = .ok (.getfield 70, 3) := by decide +kernel
theorem dX10_pitDay_33 : decode cX10_pitDay 33 = .ok (.iload_n 1, 1) := by decide +kernel
theorem dX10_pitDay_34 : decode cX10_pitDay 34 = .ok (.iaload, 1) := by decide +kernel
theorem dX10_pitDay_35 : decode cX10_pitDay 35 = .ok (.iconst 2, 1) := by decide +kernel
