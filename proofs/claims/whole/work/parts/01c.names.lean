theorem dX0_init_0 : decode cX0_init 0 = .ok (.aload_n 0, 1) := by decide +kernel
theorem dX0_init_1 : decode cX0_init 1 = .ok (.invokespecial 3, 3) := by decide +kernel
theorem dX0_init_4 : decode cX0_init 4 = .ok (.aload_n 0, 1) := by decide +kernel
theorem dX0_init_5 : decode cX0_init 5 = .ok (.sipush 600, 3) := by decide +kernel
theorem dX0_init_8 : decode cX0_init 8 = .ok (.newarray .int, 2) := by decide +kernel
theorem dX0_init_10 : decode cX0_init 10 = .ok (.putfield 9, 3) := by decide +kernel
theorem dX0_init_13 : decode cX0_init 13 = .ok (.aload_n 0, 1) := by decide +kernel
theorem dX0_init_14 : decode cX0_init 14 = .ok (.iconst 4, 1) := by decide +kernel
theorem dX0_init_15 : decode cX0_init 15 = .ok (.putfield 15, 3) := by decide +kernel
theorem dX0_init_18 : decode cX0_init 18 = .ok (.return_, 1) := by decide +kernel
theorem dX0_workLeft_0 : decode cX0_workLeft 0 = .ok (.iconst 0, 1) := by decide +kernel
theorem dX0_workLeft_1 : decode cX0_workLeft 1 = .ok (.iconst 5, 1) := by decide +kernel
theorem dX0_workLeft_2 : decode cX0_workLeft 2 = .ok (.aload_n 0, 1) := by decide +kernel
theorem dX0_workLeft_3 : decode cX0_workLeft 3 = .ok (.getfield 15, 3) := by decide +kernel
theorem dX0_workLeft_6 : decode cX0_workLeft 6 = .ok (.imul, 1) := by decide +kernel
theorem dX0_workLeft_7 : decode cX0_workLeft 7 = .ok (.aload_n 0, 1) := by decide +kernel
theorem dX0_workLeft_8 : decode cX0_workLeft 8 = .ok (.getfield 19, 3) := by decide +kernel
theorem dX0_workLeft_11 : decode cX0_workLeft 11 = .ok (.isub, 1) := by decide +kernel
theorem dX0_workLeft_12 : decode cX0_workLeft 12 = .ok (.invokestatic 22, 3) := by decide +kernel
theorem dX0_workLeft_15 : decode cX0_workLeft 15 = .ok (.ireturn, 1) := by decide +kernel
theorem dX0_spoilDry_0 : decode cX0_spoilDry 0 = .ok (.aload_n 0, 1) := by decide +kernel
theorem dX0_spoilDry_1 : decode cX0_spoilDry 1 = .ok (.getfield 28, 3) := by decide +kernel
theorem dX0_spoilDry_4 : decode cX0_spoilDry 4 = .ok (.bipush 9, 2) := by decide +kernel
theorem dX0_spoilDry_6 : decode cX0_spoilDry 6 = .ok (.iadd, 1) := by decide +kernel
theorem dX0_spoilDry_7 : decode cX0_spoilDry 7 = .ok (.bipush 10, 2) := by decide +kernel
theorem dX0_spoilDry_9 : decode cX0_spoilDry 9 = .ok (.idiv, 1) := by decide +kernel
theorem dX0_spoilDry_10 : decode cX0_spoilDry 10 = .ok (.istore_n 1, 1) := by decide +kernel
theorem dX0_spoilDry_11 : decode cX0_spoilDry 11 = .ok (.aload_n 0, 1) := by decide +kernel
theorem dX0_spoilDry_12 : decode cX0_spoilDry 12 = .ok (.dup, 1) := by decide +kernel
theorem dX0_spoilDry_13 : decode cX0_spoilDry 13 = .ok (.getfield 28, 3) := by decide +kernel
theorem dX0_spoilDry_16 : decode cX0_spoilDry 16 = .ok (.iload_n 1, 1) := by decide +kernel
theorem dX0_spoilDry_17 : decode cX0_spoilDry 17 = .ok (.isub, 1) := by decide +kernel
theorem dX0_spoilDry_18 : decode cX0_spoilDry 18 = .ok (.putfield 28, 3) := by decide +kernel
theorem dX0_spoilDry_21 : decode cX0_spoilDry 21 = .ok (.aload_n 0, 1) := by decide +kernel
theorem dX0_spoilDry_22 : decode cX0_spoilDry 22 = .ok (.dup, 1) := by decide +kernel
theorem dX0_spoilDry_23 : decode cX0_spoilDry 23 = .ok (.getfield 31, 3) := by decide +kernel
theorem dX0_spoilDry_26 : decode cX0_spoilDry 26 = .ok (.iload_n 1, 1) := by decide +kernel
theorem dX0_spoilDry_27 : decode cX0_spoilDry 27 = .ok (.iadd, 1) := by decide +kernel
theorem dX0_spoilDry_28 : decode cX0_spoilDry 28 = .ok (.putfield 31, 3) := by decide +kernel
theorem dX0_spoilDry_31 : decode cX0_spoilDry 31 = .ok (.return_, 1) := by decide +kernel
theorem dX0_dryWet_0 : decode cX0_dryWet 0 = .ok (.aload_n 0, 1) := by decide +kernel
theorem dX0_dryWet_1 : decode cX0_dryWet 1 = .ok (.getfield 34, 3) := by decide +kernel
theorem dX0_dryWet_4 : decode cX0_dryWet 4 = .ok (.iload_n 1, 1) := by decide +kernel
theorem dX0_dryWet_5 : decode cX0_dryWet 5 = .ok (.imul, 1) := by decide +kernel
theorem dX0_dryWet_6 : decode cX0_dryWet 6 = .ok (.bipush 10, 2) := by decide +kernel
theorem dX0_dryWet_8 : decode cX0_dryWet 8 = .ok (.idiv, 1) := by decide +kernel
theorem dX0_dryWet_9 : decode cX0_dryWet 9 = .ok (.iconst 4, 1) := by decide +kernel
theorem dX0_dryWet_10 : decode cX0_dryWet 10 = .ok (.idiv, 1) := by decide +kernel
theorem dX0_dryWet_11 : decode cX0_dryWet 11 = .ok (.istore_n 2, 1) := by decide +kernel
theorem dX0_dryWet_12 : decode cX0_dryWet 12 = .ok (.aload_n 0, 1) := by decide +kernel
theorem dX0_dryWet_13 : decode cX0_dryWet 13 = .ok (.dup, 1) := by decide +kernel
theorem dX0_dryWet_14 : decode cX0_dryWet 14 = .ok (.getfield 34, 3) := by decide +kernel
theorem dX0_dryWet_17 : decode cX0_dryWet 17 = .ok (.iload_n 2, 1) := by decide +kernel
theorem dX0_dryWet_18 : decode cX0_dryWet 18 = .ok (.iconst 4, 1) := by decide +kernel
theorem dX0_dryWet_19 : decode cX0_dryWet 19 = .ok (.imul, 1) := by decide +kernel
theorem dX0_dryWet_20 : decode cX0_dryWet 20 = .ok (.isub, 1) := by decide +kernel
theorem dX0_dryWet_21 : decode cX0_dryWet 21 = .ok (.putfield 34, 3) := by decide +kernel
theorem dX0_dryWet_24 : decode cX0_dryWet 24 = .ok (.aload_n 0, 1) := by decide +kernel
theorem dX0_dryWet_25 : decode cX0_dryWet 25 = .ok (.dup, 1) := by decide +kernel
theorem dX0_dryWet_26 : decode cX0_dryWet 26 = .ok (.getfield 28, 3) := by decide +kernel
theorem dX0_dryWet_29 : decode cX0_dryWet 29 = .ok (.iload_n 2, 1) := by decide +kernel
theorem dX0_dryWet_30 : decode cX0_dryWet 30 = .ok (.iadd, 1) := by decide +kernel
theorem dX0_dryWet_31 : decode cX0_dryWet 31 = .ok (.putfield 28, 3) := by decide +kernel
theorem dX0_dryWet_34 : decode cX0_dryWet 34 = .ok (.return_, 1) := by decide +kernel
set_option maxRecDepth 20000 in
theorem ggX0_owe_X0_isOwedRow : GoodIn wsX0_owe wsX0_isOwedRow := goodIn_r _ [5, 6, 7, 8] (by decide +kernel) (by decide +kernel)
set_option maxRecDepth 20000 in
theorem gX0_owe_X0_isOwedRow : GoodIn wsX0_owe (va_wsS RX0 37 yX0_isOwedRow wsX0_isOwedRow) := goodIn_app (goodIn_of _ (by decide +kernel)) ggX0_owe_X0_isOwedRow
theorem dX0_owe_0 : decode cX0_owe 0 = .ok (.iload_n 1, 1) := by decide +kernel
theorem dX0_owe_1 : decode cX0_owe 1 = .ok (.iload_n 2, 1) := by decide +kernel
theorem dX0_owe_2 : decode cX0_owe 2 = .ok (.invokestatic 37, 3) := by decide +kernel
theorem dX0_owe_5 : decode cX0_owe 5 = .ok (.ifCond .eq 18, 3) := by decide +kernel
theorem dX0_owe_8 : decode cX0_owe 8 = .ok (.aload_n 0, 1) := by decide +kernel
theorem dX0_owe_9 : decode cX0_owe 9 = .ok (.getfield 9, 3) := by decide +kernel
theorem dX0_owe_12 : decode cX0_owe 12 = .ok (.iload_n 2, 1) := by decide +kernel
theorem dX0_owe_13 : decode cX0_owe 13 = .ok (.bipush 6, 2) := by decide +kernel
theorem dX0_owe_15 : decode cX0_owe 15 = .ok (.imul, 1) := by decide +kernel
theorem dX0_owe_16 : decode cX0_owe 16 = .ok (.iload_n 1, 1) := by decide +kernel
theorem dX0_owe_17 : decode cX0_owe 17 = .ok (.iadd, 1) := by decide +kernel
theorem dX0_owe_18 : decode cX0_owe 18 = .ok (.dup2, 1) := by decide +kernel
theorem dX0_owe_19 : decode cX0_owe 19 = .ok (.iaload, 1) := by decide +kernel
theorem dX0_owe_20 : decode cX0_owe 20 = .ok (.iload_n 3, 1) := by decide +kernel
theorem dX0_owe_21 : decode cX0_owe 21 = .ok (.iadd, 1) := by decide +kernel
theorem dX0_owe_22 : decode cX0_owe 22 = .ok (.iastore, 1) := by decide +kernel
theorem dX0_owe_23 : decode cX0_owe 23 = .ok (.return_, 1) := by decide +kernel
set_option maxRecDepth 20000 in
theorem ggX0_owedFor_X0_isOwedRow : GoodIn wsX0_owedFor wsX0_isOwedRow := goodIn_r _ [5, 6, 7, 8] (by decide +kernel) (by decide +kernel)
set_option maxRecDepth 20000 in
theorem gX0_owedFor_X0_isOwedRow : GoodIn wsX0_owedFor (va_wsS RX0 37 yX0_isOwedRow wsX0_isOwedRow) := goodIn_app (goodIn_of _ (by decide +kernel)) ggX0_owedFor_X0_isOwedRow
theorem dX0_owedFor_0 : decode cX0_owedFor 0 = .ok (.iload_n 1, 1) := by decide +kernel
theorem dX0_owedFor_1 : decode cX0_owedFor 1 = .ok (.iload_n 2, 1) := by decide +kernel
theorem dX0_owedFor_2 : decode cX0_owedFor 2 = .ok (.invokestatic 37, 3) := by decide +kernel
theorem dX0_owedFor_5 : decode cX0_owedFor 5 = .ok (.ifCond .eq 17, 3) := by decide +kernel
theorem dX0_owedFor_8 : decode cX0_owedFor 8 = .ok (.aload_n 0, 1) := by decide +kernel
theorem dX0_owedFor_9 : decode cX0_owedFor 9 = .ok (.getfield 9, 3) := by decide +kernel
theorem dX0_owedFor_12 : decode cX0_owedFor 12 = .ok (.iload_n 2, 1) := by decide +kernel
theorem dX0_owedFor_13 : decode cX0_owedFor 13 = .ok (.bipush 6, 2) := by decide +kernel
theorem dX0_owedFor_15 : decode cX0_owedFor 15 = .ok (.imul, 1) := by decide +kernel
theorem dX0_owedFor_16 : decode cX0_owedFor 16 = .ok (.iload_n 1, 1) := by decide +kernel
theorem dX0_owedFor_17 : decode cX0_owedFor 17 = .ok (.iadd, 1) := by decide +kernel
theorem dX0_owedFor_18 : decode cX0_owedFor 18 = .ok (.iaload, 1) := by decide +kernel
theorem dX0_owedFor_19 : decode cX0_owedFor 19 = .ok (.goto 4, 3) := by decide +kernel
theorem dX0_owedFor_22 : decode cX0_owedFor 22 = .ok (.iconst 0, 1) := by decide +kernel
theorem dX0_owedFor_23 : decode cX0_owedFor 23 = .ok (.ireturn, 1) := by decide +kernel
set_option maxRecDepth 20000 in
theorem ggX0_isOwedRow_X9_isWithin : GoodIn wsX0_isOwedRow wsX9_isWithin := goodIn_r _ [3] (by decide +kernel) (by decide +kernel)
set_option maxRecDepth 20000 in
theorem gX0_isOwedRow_X9_isWithin_n41 : GoodIn wsX0_isOwedRow (wsX9_isWithin) := ggX0_isOwedRow_X9_isWithin
theorem dX0_isOwedRow_0 : decode cX0_isOwedRow 0 = .ok (.iload_n 0, 1) := by decide +kernel
theorem dX0_isOwedRow_1 : decode cX0_isOwedRow 1 = .ok (.iconst 0, 1) := by decide +kernel
theorem dX0_isOwedRow_2 : decode cX0_isOwedRow 2 = .ok (.iconst 5, 1) := by decide +kernel
theorem dX0_isOwedRow_3 : decode cX0_isOwedRow 3 = .ok (.invokestatic 41, 3) := by decide +kernel
theorem dX0_isOwedRow_6 : decode cX0_isOwedRow 6 = .ok (.ifCond .eq 17, 3) := by decide +kernel
theorem dX0_isOwedRow_9 : decode cX0_isOwedRow 9 = .ok (.iload_n 1, 1) := by decide +kernel
theorem dX0_isOwedRow_10 : decode cX0_isOwedRow 10 = .ok (.iconst 0, 1) := by decide +kernel
theorem dX0_isOwedRow_11 : decode cX0_isOwedRow 11 = .ok (.bipush 99, 2) := by decide +kernel
theorem dX0_isOwedRow_13 : decode cX0_isOwedRow 13 = .ok (.invokestatic 41, 3) := by decide +kernel
theorem dX0_isOwedRow_16 : decode cX0_isOwedRow 16 = .ok (.ifCond .eq 7, 3) := by decide +kernel
theorem dX0_isOwedRow_19 : decode cX0_isOwedRow 19 = .ok (.iconst 1, 1) := by decide +kernel
theorem dX0_isOwedRow_20 : decode cX0_isOwedRow 20 = .ok (.goto 4, 3) := by decide +kernel
theorem dX0_isOwedRow_23 : decode cX0_isOwedRow 23 = .ok (.iconst 0, 1) := by decide +kernel
theorem dX0_isOwedRow_24 : decode cX0_isOwedRow 24 = .ok (.ireturn, 1) := by decide +kernel
theorem dX1_init_0 : decode cX1_init 0 = .ok (.aload_n 0, 1) := by decide +kernel
theorem dX1_init_1 : decode cX1_init 1 = .ok (.invokespecial 3, 3) := by decide +kernel
theorem dX1_init_4 : decode cX1_init 4 = .ok (.aload_n 0, 1) := by decide +kernel
theorem dX1_init_5 : decode cX1_init 5 = .ok (.bipush 16, 2) := by decide +kernel
theorem dX1_init_7 : decode cX1_init 7 = .ok (.newarray .boolean, 2) := by decide +kernel
theorem dX1_init_9 : decode cX1_init 9 = .ok (.putfield 9, 3) := by decide +kernel
theorem dX1_init_12 : decode cX1_init 12 = .ok (.aload_n 0, 1) := by decide +kernel
theorem dX1_init_13 : decode cX1_init 13 = .ok (.bipush 16, 2) := by decide +kernel
theorem dX1_init_15 : decode cX1_init 15 = .ok (.newarray .boolean, 2) := by decide +kernel
theorem dX1_init_17 : decode cX1_init 17 = .ok (.putfield 15, 3) := by decide +kernel
theorem dX1_init_20 : decode cX1_init 20 = .ok (.aload_n 0, 1) := by decide +kernel
theorem dX1_init_21 : decode cX1_init 21 = .ok (.bipush 16, 2) := by decide +kernel
theorem dX1_init_23 : decode cX1_init 23 = .ok (.newarray .boolean, 2) := by decide +kernel
theorem dX1_init_25 : decode cX1_init 25 = .ok (.putfield 18, 3) := by decide +kernel
theorem dX1_init_28 : decode cX1_init 28 = .ok (.aload_n 0, 1) := by decide +kernel
theorem dX1_init_29 : decode cX1_init 29 = .ok (.bipush 17, 2) := by decide +kernel
theorem dX1_init_31 : decode cX1_init 31 = .ok (.newarray .int, 2) := by decide +kernel
theorem dX1_init_33 : decode cX1_init 33 = .ok (.putfield 21, 3) := by decide +kernel
theorem dX1_init_36 : decode cX1_init 36 = .ok (.aload_n 0, 1) := by decide +kernel
theorem dX1_init_37 : decode cX1_init 37 = .ok (.bipush 17, 2) := by decide +kernel
theorem dX1_init_39 : decode cX1_init 39 = .ok (.newarray .int, 2) := by decide +kernel
theorem dX1_init_41 : decode cX1_init 41 = .ok (.putfield 25, 3) := by decide +kernel
theorem dX1_init_44 : decode cX1_init 44 = .ok (.return_, 1) := by decide +kernel
theorem dX1_addDay_0 : decode cX1_addDay 0 = .ok (.aload_n 0, 1) := by decide +kernel
theorem dX1_addDay_1 : decode cX1_addDay 1 = .ok (.getfield 28, 3) := by decide +kernel
theorem dX1_addDay_4 : decode cX1_addDay 4 = .ok (.bipush 16, 2) := by decide +kernel
theorem dX1_addDay_6 : decode cX1_addDay 6 = .ok (.if_icmp .lt 5, 3) := by decide +kernel
theorem dX1_addDay_9 : decode cX1_addDay 9 = .ok (.iconst 0, 1) := by decide +kernel
theorem dX1_addDay_10 : decode cX1_addDay 10 = .ok (.ireturn, 1) := by decide +kernel
theorem dX1_addDay_11 : decode cX1_addDay 11 = .ok (.aload_n 0, 1) := by decide +kernel
theorem dX1_addDay_12 : decode cX1_addDay 12 = .ok (.getfield 9, 3) := by decide +kernel
theorem dX1_addDay_15 : decode cX1_addDay 15 = .ok (.aload_n 0, 1) := by decide +kernel
theorem dX1_addDay_16 : decode cX1_addDay 16 = .ok (.getfield 28, 3) := by decide +kernel
theorem dX1_addDay_19 : decode cX1_addDay 19 = .ok (.iload_n 1, 1) := by decide +kernel
theorem dX1_addDay_20 : decode cX1_addDay 20 = .ok (.bastore, 1) := by decide +kernel
theorem dX1_addDay_21 : decode cX1_addDay 21 = .ok (.aload_n 0, 1) := by decide +kernel
theorem dX1_addDay_22 : decode cX1_addDay 22 = .ok (.getfield 15, 3) := by decide +kernel
theorem dX1_addDay_25 : decode cX1_addDay 25 = .ok (.aload_n 0, 1) := by decide +kernel
theorem dX1_addDay_26 : decode cX1_addDay 26 = .ok (.getfield 28, 3) := by decide +kernel
theorem dX1_addDay_29 : decode cX1_addDay 29 = .ok (.iload_n 2, 1) := by decide +kernel
theorem dX1_addDay_30 : decode cX1_addDay 30 = .ok (.bastore, 1) := by decide +kernel
theorem dX1_addDay_31 : decode cX1_addDay 31 = .ok (.aload_n 0, 1) := by decide +kernel
theorem dX1_addDay_32 : decode cX1_addDay 32 = .ok (.getfield 18, 3) := by decide +kernel
theorem dX1_addDay_35 : decode cX1_addDay 35 = .ok (.aload_n 0, 1) := by decide +kernel
theorem dX1_addDay_36 : decode cX1_addDay 36 = .ok (.getfield 28, 3) := by decide +kernel
theorem dX1_addDay_39 : decode cX1_addDay 39 = .ok (.iload_n 3, 1) := by decide +kernel
theorem dX1_addDay_40 : decode cX1_addDay 40 = .ok (.bastore, 1) := by decide +kernel
theorem dX1_addDay_41 : decode cX1_addDay 41 = .ok (.aload_n 0, 1) := by decide +kernel
theorem dX1_addDay_42 : decode cX1_addDay 42 = .ok (.dup, 1) := by decide +kernel
theorem dX1_addDay_43 : decode cX1_addDay 43 = .ok (.getfield 28, 3) := by decide +kernel
theorem dX1_addDay_46 : decode cX1_addDay 46 = .ok (.iconst 1, 1) := by decide +kernel
theorem dX1_addDay_47 : decode cX1_addDay 47 = .ok (.iadd, 1) := by decide +kernel
theorem dX1_addDay_48 : decode cX1_addDay 48 = .ok (.putfield 28, 3) := by decide +kernel
theorem dX1_addDay_51 : decode cX1_addDay 51 = .ok (.iconst 1, 1) := by decide +kernel
theorem dX1_addDay_52 : decode cX1_addDay 52 = .ok (.ireturn, 1) := by decide +kernel
set_option maxRecDepth 20000 in
theorem ggX1_mostBurnt_J7_fill_53178 : GoodIn wsX1_mostBurnt wsJ7_fill_53178 := goodIn_r _ [17] (by decide +kernel) (by decide +kernel)
set_option maxRecDepth 20000 in
theorem gX1_mostBurnt_J7_fill_53178 : GoodIn wsX1_mostBurnt (va_wsS RX1 32 yJ7_fill_53178 wsJ7_fill_53178) := goodIn_app (goodIn_of _ (by decide +kernel)) ggX1_mostBurnt_J7_fill_53178
set_option maxRecDepth 20000 in
theorem ggX1_mostBurnt_X1_isFair : GoodIn wsX1_mostBurnt wsX1_isFair := goodIn_r _ [22, 2, 23, 36, 37, 38, 39, 40, 41] (by decide +kernel) (by decide +kernel)
set_option maxRecDepth 20000 in
theorem gX1_mostBurnt_X1_isFair : GoodIn wsX1_mostBurnt (wsV RX1 38 RX1 yX1_isFair wsX1_isFair) := goodIn_app (goodIn_of _ (by decide +kernel)) ggX1_mostBurnt_X1_isFair
set_option maxRecDepth 20000 in
theorem ggX1_mostBurnt_X1_greatestDry : GoodIn wsX1_mostBurnt wsX1_greatestDry := goodIn_r _ [27, 1, 3, 4, 5, 6, 36, 37, 38, 39, 40, 41] (by decide +kernel) (by decide +kernel)
set_option maxRecDepth 20000 in
theorem gX1_mostBurnt_X1_greatestDry : GoodIn wsX1_mostBurnt (wsV RX1 42 RX1 yX1_greatestDry wsX1_greatestDry) := goodIn_app (goodIn_of _ (by decide +kernel)) ggX1_mostBurnt_X1_greatestDry
set_option maxRecDepth 20000 in
theorem ggX1_mostBurnt_X1_weighCutting : GoodIn wsX1_mostBurnt wsX1_weighCutting := goodIn_r _ [31, 1, 7, 3, 4, 5, 6, 36, 37, 38, 39, 40, 41] (by decide +kernel) (by decide +kernel)
set_option maxRecDepth 20000 in
theorem gX1_mostBurnt_X1_weighCutting : GoodIn wsX1_mostBurnt (wsV RX1 58 RX1 yX1_weighCutting wsX1_weighCutting) := goodIn_app (goodIn_of _ (by decide +kernel)) ggX1_mostBurnt_X1_weighCutting
set_option maxRecDepth 20000 in
theorem ggX1_mostBurnt_X1_weighDrying : GoodIn wsX1_mostBurnt wsX1_weighDrying := goodIn_r _ [35, 1, 7, 3, 4, 5, 6, 36, 37, 38, 39, 40, 41] (by decide +kernel) (by decide +kernel)
set_option maxRecDepth 20000 in
theorem gX1_mostBurnt_X1_weighDrying : GoodIn wsX1_mostBurnt (wsV RX1 61 RX1 yX1_weighDrying wsX1_weighDrying) := goodIn_app (goodIn_of _ (by decide +kernel)) ggX1_mostBurnt_X1_weighDrying
theorem dX1_mostBurnt_0 : decode cX1_mostBurnt 0 = .ok (.aload_n 0, 1) := by decide +kernel
theorem dX1_mostBurnt_1 : decode cX1_mostBurnt 1 = .ok (.getfield 21, 3) := by decide +kernel
theorem dX1_mostBurnt_4 : decode cX1_mostBurnt 4 = .ok (.iconst (-1), 1) := by decide +kernel
theorem dX1_mostBurnt_5 : decode cX1_mostBurnt 5 = .ok (.invokestatic 32, 3) := by decide +kernel
theorem dX1_mostBurnt_8 : decode cX1_mostBurnt 8 = .ok (.aload_n 0, 1) := by decide +kernel
theorem dX1_mostBurnt_9 : decode cX1_mostBurnt 9 = .ok (.getfield 21, 3) := by decide +kernel
theorem dX1_mostBurnt_12 : decode cX1_mostBurnt 12 = .ok (.iconst 0, 1) := by decide +kernel
theorem dX1_mostBurnt_13 : decode cX1_mostBurnt 13 = .ok (.iconst 0, 1) := by decide +kernel
theorem dX1_mostBurnt_14 : decode cX1_mostBurnt 14 = .ok (.iastore, 1) := by decide +kernel
theorem dX1_mostBurnt_15 : decode cX1_mostBurnt 15 = .ok (.iconst 0, 1) := by decide +kernel
theorem dX1_mostBurnt_16 : decode cX1_mostBurnt 16 = .ok (.istore_n 1, 1) := by decide +kernel
theorem dX1_mostBurnt_17 : decode cX1_mostBurnt 17 = .ok (.iconst 0, 1) := by decide +kernel
theorem dX1_mostBurnt_18 : decode cX1_mostBurnt 18 = .ok (.istore_n 2, 1) := by decide +kernel
theorem dX1_mostBurnt_19 : decode cX1_mostBurnt 19 = .ok (.iload_n 2, 1) := by decide +kernel
theorem dX1_mostBurnt_20 : decode cX1_mostBurnt 20 = .ok (.aload_n 0, 1) := by decide +kernel
theorem dX1_mostBurnt_21 : decode cX1_mostBurnt 21 = .ok (.getfield 28, 3) := by decide +kernel
theorem dX1_mostBurnt_24 : decode cX1_mostBurnt 24 = .ok (.if_icmp .ge 104, 3) := by decide +kernel
theorem dX1_mostBurnt_27 : decode cX1_mostBurnt 27 = .ok (.iload_n 2, 1) := by decide +kernel
theorem dX1_mostBurnt_28 : decode cX1_mostBurnt 28 = .ok (.bipush 16, 2) := by decide +kernel
theorem dX1_mostBurnt_30 : decode cX1_mostBurnt 30 = .ok (.if_icmp .ge 98, 3) := by decide +kernel
theorem dX1_mostBurnt_33 : decode cX1_mostBurnt 33 = .ok (.aload_n 0, 1) := by decide +kernel
theorem dX1_mostBurnt_34 : decode cX1_mostBurnt 34 = .ok (.iload_n 2, 1) := by decide +kernel
theorem dX1_mostBurnt_35 : decode cX1_mostBurnt 35 = .ok (.invokevirtual 38, 3) := by decide +kernel
theorem dX1_mostBurnt_38 : decode cX1_mostBurnt 38 = .ok (.ifCond .eq 32, 3) := by decide +kernel
theorem dX1_mostBurnt_41 : decode cX1_mostBurnt 41 = .ok (.aload_n 0, 1) := by decide +kernel
theorem dX1_mostBurnt_42 : decode cX1_mostBurnt 42 = .ok (.iload_n 2, 1) := by decide +kernel
theorem dX1_mostBurnt_43 : decode cX1_mostBurnt 43 = .ok (.iconst 1, 1) := by decide +kernel
theorem dX1_mostBurnt_44 : decode cX1_mostBurnt 44 = .ok (.iadd, 1) := by decide +kernel
theorem dX1_mostBurnt_45 : decode cX1_mostBurnt 45 = .ok (.invokevirtual 38, 3) := by decide +kernel
theorem dX1_mostBurnt_48 : decode cX1_mostBurnt 48 = .ok (.ifCond .eq 22, 3) := by decide +kernel
theorem dX1_mostBurnt_51 : decode cX1_mostBurnt 51 = .ok (.aload_n 0, 1) := by decide +kernel
theorem dX1_mostBurnt_52 : decode cX1_mostBurnt 52 = .ok (.iload_n 2, 1) := by decide +kernel
theorem dX1_mostBurnt_53 : decode cX1_mostBurnt 53 = .ok (.iconst 2, 1) := by decide +kernel
theorem dX1_mostBurnt_54 : decode cX1_mostBurnt 54 = .ok (.iadd, 1) := by decide +kernel
theorem dX1_mostBurnt_55 : decode cX1_mostBurnt 55 = .ok (.invokevirtual 38, 3) := by decide +kernel
theorem dX1_mostBurnt_58 : decode cX1_mostBurnt 58 = .ok (.ifCond .eq 12, 3) := by decide +kernel
theorem dX1_mostBurnt_61 : decode cX1_mostBurnt 61 = .ok (.iload_n 1, 1) := by decide +kernel
theorem dX1_mostBurnt_62 : decode cX1_mostBurnt 62 = .ok (.aload_n 0, 1) := by decide +kernel
theorem dX1_mostBurnt_63 : decode cX1_mostBurnt 63 = .ok (.invokevirtual 42, 3) := by decide +kernel
theorem dX1_mostBurnt_66 : decode cX1_mostBurnt 66 = .ok (.invokestatic 46, 3) := by decide +kernel
theorem dX1_mostBurnt_69 : decode cX1_mostBurnt 69 = .ok (.istore_n 1, 1) := by decide +kernel
theorem dX1_mostBurnt_70 : decode cX1_mostBurnt 70 = .ok (.aload_n 0, 1) := by decide +kernel
theorem dX1_mostBurnt_71 : decode cX1_mostBurnt 71 = .ok (.getfield 21, 3) := by decide +kernel
theorem dX1_mostBurnt_74 : decode cX1_mostBurnt 74 = .ok (.iconst 0, 1) := by decide +kernel
theorem dX1_mostBurnt_75 : decode cX1_mostBurnt 75 = .ok (.aload_n 0, 1) := by decide +kernel
theorem dX1_mostBurnt_76 : decode cX1_mostBurnt 76 = .ok (.getfield 25, 3) := by decide +kernel
theorem dX1_mostBurnt_79 : decode cX1_mostBurnt 79 = .ok (.iconst 0, 1) := by decide +kernel
theorem dX1_mostBurnt_80 : decode cX1_mostBurnt 80 = .ok (.aload_n 0, 1) := by decide +kernel
theorem dX1_mostBurnt_81 : decode cX1_mostBurnt 81 = .ok (.getfield 21, 3) := by decide +kernel
theorem dX1_mostBurnt_84 : decode cX1_mostBurnt 84 = .ok (.arraylength, 1) := by decide +kernel
theorem dX1_mostBurnt_85 : decode cX1_mostBurnt 85 = .ok (.invokestatic 52, 3) := by decide +kernel
theorem dX1_mostBurnt_88 : decode cX1_mostBurnt 88 = .ok (.aload_n 0, 1) := by decide +kernel
theorem dX1_mostBurnt_89 : decode cX1_mostBurnt 89 = .ok (.getfield 9, 3) := by decide +kernel
theorem dX1_mostBurnt_92 : decode cX1_mostBurnt 92 = .ok (.iload_n 2, 1) := by decide +kernel
theorem dX1_mostBurnt_93 : decode cX1_mostBurnt 93 = .ok (.baload, 1) := by decide +kernel
theorem dX1_mostBurnt_94 : decode cX1_mostBurnt 94 = .ok (.ifCond .eq 7, 3) := by decide +kernel
theorem dX1_mostBurnt_97 : decode cX1_mostBurnt 97 = .ok (.aload_n 0, 1) := by decide +kernel
theorem dX1_mostBurnt_98 : decode cX1_mostBurnt 98 = .ok (.invokevirtual 58, 3) := by decide +kernel
theorem dX1_mostBurnt_101 : decode cX1_mostBurnt 101 = .ok (.aload_n 0, 1) := by decide +kernel
theorem dX1_mostBurnt_102 : decode cX1_mostBurnt 102 = .ok (.getfield 15, 3) := by decide +kernel
theorem dX1_mostBurnt_105 : decode cX1_mostBurnt 105 = .ok (.iload_n 2, 1) := by decide +kernel
theorem dX1_mostBurnt_106 : decode cX1_mostBurnt 106 = .ok (.baload, 1) := by decide +kernel
theorem dX1_mostBurnt_107 : decode cX1_mostBurnt 107 = .ok (.ifCond .eq 15, 3) := by decide +kernel
theorem dX1_mostBurnt_110 : decode cX1_mostBurnt 110 = .ok (.aload_n 0, 1) := by decide +kernel
theorem dX1_mostBurnt_111 : decode cX1_mostBurnt 111 = .ok (.iload_n 2, 1) := by decide +kernel
theorem dX1_mostBurnt_112 : decode cX1_mostBurnt 112 = .ok (.invokevirtual 38, 3) := by decide +kernel
theorem dX1_mostBurnt_115 : decode cX1_mostBurnt 115 = .ok (.ifCond .eq 7, 3) := by decide +kernel
theorem dX1_mostBurnt_118 : decode cX1_mostBurnt 118 = .ok (.aload_n 0, 1) := by decide +kernel
theorem dX1_mostBurnt_119 : decode cX1_mostBurnt 119 = .ok (.invokevirtual 61, 3) := by decide +kernel
theorem dX1_mostBurnt_122 : decode cX1_mostBurnt 122 = .ok (.iinc 2 1, 3) := by decide +kernel
theorem dX1_mostBurnt_125 : decode cX1_mostBurnt 125 = .ok (.goto (-106), 3) := by decide +kernel
theorem dX1_mostBurnt_128 : decode cX1_mostBurnt 128 = .ok (.iload_n 1, 1) := by decide +kernel
theorem dX1_mostBurnt_129 : decode cX1_mostBurnt 129 = .ok (.ireturn, 1) := by decide +kernel
theorem dX1_isFair_0 : decode cX1_isFair 0 = .ok (.iload_n 1, 1) := by decide +kernel
theorem dX1_isFair_1 : decode cX1_isFair 1 = .ok (.ifCond .lt 30, 3) := by decide +kernel
theorem dX1_isFair_4 : decode cX1_isFair 4 = .ok (.iload_n 1, 1) := by decide +kernel
theorem dX1_isFair_5 : decode cX1_isFair 5 = .ok (.aload_n 0, 1) := by decide +kernel
theorem dX1_isFair_6 : decode cX1_isFair 6 = .ok (.getfield 28, 3) := by decide +kernel
theorem dX1_isFair_9 : decode cX1_isFair 9 = .ok (.if_icmp .ge 22, 3) := by decide +kernel
theorem dX1_isFair_12 : decode cX1_isFair 12 = .ok (.iload_n 1, 1) := by decide +kernel
theorem dX1_isFair_13 : decode cX1_isFair 13 = .ok (.bipush 16, 2) := by decide +kernel
theorem dX1_isFair_15 : decode cX1_isFair 15 = .ok (.if_icmp .ge 16, 3) := by decide +kernel
theorem dX1_isFair_18 : decode cX1_isFair 18 = .ok (.aload_n 0, 1) := by decide +kernel
theorem dX1_isFair_19 : decode cX1_isFair 19 = .ok (.getfield 18, 3) := by decide +kernel
theorem dX1_isFair_22 : decode cX1_isFair 22 = .ok (.iload_n 1, 1) := by decide +kernel
theorem dX1_isFair_23 : decode cX1_isFair 23 = .ok (.baload, 1) := by decide +kernel
theorem dX1_isFair_24 : decode cX1_isFair 24 = .ok (.ifCond .ne 7, 3) := by decide +kernel
theorem dX1_isFair_27 : decode cX1_isFair 27 = .ok (.iconst 1, 1) := by decide +kernel
theorem dX1_isFair_28 : decode cX1_isFair 28 = .ok (.goto 4, 3) := by decide +kernel
theorem dX1_isFair_31 : decode cX1_isFair 31 = .ok (.iconst 0, 1) := by decide +kernel
theorem dX1_isFair_32 : decode cX1_isFair 32 = .ok (.ireturn, 1) := by decide +kernel
theorem dX1_greatestDry_0 : decode cX1_greatestDry 0 = .ok (.iconst 0, 1) := by decide +kernel
theorem dX1_greatestDry_1 : decode cX1_greatestDry 1 = .ok (.istore_n 1, 1) := by decide +kernel
theorem dX1_greatestDry_2 : decode cX1_greatestDry 2 = .ok (.aload_n 0, 1) := by decide +kernel
theorem dX1_greatestDry_3 : decode cX1_greatestDry 3 = .ok (.getfield 21, 3) := by decide +kernel
theorem dX1_greatestDry_6 : decode cX1_greatestDry 6 = .ok (.astore_n 2, 1) := by decide +kernel
theorem dX1_greatestDry_7 : decode cX1_greatestDry 7 = .ok (.aload_n 2, 1) := by decide +kernel
theorem dX1_greatestDry_8 : decode cX1_greatestDry 8 = .ok (.arraylength, 1) := by decide +kernel
theorem dX1_greatestDry_9 : decode cX1_greatestDry 9 = .ok (.istore_n 3, 1) := by decide +kernel
theorem dX1_greatestDry_10 : decode cX1_greatestDry 10 = .ok (.iconst 0, 1) := by decide +kernel
theorem dX1_greatestDry_11 : decode cX1_greatestDry 11 = .ok (.istore 4, 2) := by decide +kernel
theorem dX1_greatestDry_13 : decode cX1_greatestDry 13 = .ok (.iload 4, 2) := by decide +kernel
theorem dX1_greatestDry_15 : decode cX1_greatestDry 15 = .ok (.iload_n 3, 1) := by decide +kernel
theorem dX1_greatestDry_16 : decode cX1_greatestDry 16 = .ok (.if_icmp .ge 22, 3) := by decide +kernel
theorem dX1_greatestDry_19 : decode cX1_greatestDry 19 = .ok (.aload_n 2, 1) := by decide +kernel
theorem dX1_greatestDry_20 : decode cX1_greatestDry 20 = .ok (.iload 4, 2) := by decide +kernel
theorem dX1_greatestDry_22 : decode cX1_greatestDry 22 = .ok (.iaload, 1) := by decide +kernel
theorem dX1_greatestDry_23 : decode cX1_greatestDry 23 = .ok (.istore 5, 2) := by decide +kernel
theorem dX1_greatestDry_25 : decode cX1_greatestDry 25 = .ok (.iload_n 1, 1) := by decide +kernel
theorem dX1_greatestDry_26 : decode cX1_greatestDry 26 = .ok (.iload 5, 2) := by decide +kernel
theorem dX1_greatestDry_28 : decode cX1_greatestDry 28 = .ok (.invokestatic 46, 3) := by decide +kernel
theorem dX1_greatestDry_31 : decode cX1_greatestDry 31 = .ok (.istore_n 1, 1) := by decide +kernel
theorem dX1_greatestDry_32 : decode cX1_greatestDry 32 = .ok (.iinc 4 1, 3) := by decide +kernel
theorem dX1_greatestDry_35 : decode cX1_greatestDry 35 = .ok (.goto (-22), 3) := by decide +kernel
theorem dX1_greatestDry_38 : decode cX1_greatestDry 38 = .ok (.iload_n 1, 1) := by decide +kernel
theorem dX1_greatestDry_39 : decode cX1_greatestDry 39 = .ok (.ireturn, 1) := by decide +kernel
theorem dX1_weighCutting_0 : decode cX1_weighCutting 0 = .ok (.iconst 1, 1) := by decide +kernel
theorem dX1_weighCutting_1 : decode cX1_weighCutting 1 = .ok (.istore_n 1, 1) := by decide +kernel
theorem dX1_weighCutting_2 : decode cX1_weighCutting 2 = .ok (.iload_n 1, 1) := by decide +kernel
theorem dX1_weighCutting_3 : decode cX1_weighCutting 3 = .ok (.aload_n 0, 1) := by decide +kernel
theorem dX1_weighCutting_4 : decode cX1_weighCutting 4 = .ok (.getfield 21, 3) := by decide +kernel
theorem dX1_weighCutting_7 : decode cX1_weighCutting 7 = .ok (.arraylength, 1) := by decide +kernel
theorem dX1_weighCutting_8 : decode cX1_weighCutting 8 = .ok (.if_icmp .ge 41, 3) := by decide +kernel
theorem dX1_weighCutting_11 : decode cX1_weighCutting 11 = .ok (.iload_n 1, 1) := by decide +kernel
theorem dX1_weighCutting_12 : decode cX1_weighCutting 12 = .ok (.aload_n 0, 1) := by decide +kernel
theorem dX1_weighCutting_13 : decode cX1_weighCutting 13 = .ok (.getfield 25, 3) := by decide +kernel
theorem dX1_weighCutting_16 : decode cX1_weighCutting 16 = .ok (.arraylength, 1) := by decide +kernel
theorem dX1_weighCutting_17 : decode cX1_weighCutting 17 = .ok (.if_icmp .ge 32, 3) := by decide +kernel
theorem dX1_weighCutting_20 : decode cX1_weighCutting 20 = .ok (.aload_n 0, 1) := by decide +kernel
theorem dX1_weighCutting_21 : decode cX1_weighCutting 21 = .ok (.getfield 21, 3) := by decide +kernel
theorem dX1_weighCutting_24 : decode cX1_weighCutting 24 = .ok (.iload_n 1, 1) := by decide +kernel
theorem dX1_weighCutting_25 : decode cX1_weighCutting 25 = .ok (.aload_n 0, 1) := by decide +kernel
theorem dX1_weighCutting_26 : decode cX1_weighCutting 26 = .ok (.getfield 21, 3) := by decide +kernel
theorem dX1_weighCutting_29 : decode cX1_weighCutting 29 = .ok (.iload_n 1, 1) := by decide +kernel
theorem dX1_weighCutting_30 : decode cX1_weighCutting 30 = .ok (.iaload, 1) := by decide +kernel
theorem dX1_weighCutting_31 : decode cX1_weighCutting 31 = .ok (.aload_n 0, 1) := by decide +kernel
theorem dX1_weighCutting_32 : decode cX1_weighCutting 32 = .ok (.getfield 25, 3) := by decide +kernel
theorem dX1_weighCutting_35 : decode cX1_weighCutting 35 = .ok (.iload_n 1, 1) := by decide +kernel
theorem dX1_weighCutting_36 : decode cX1_weighCutting 36 = .ok (.iconst 1, 1) := by decide +kernel
theorem dX1_weighCutting_37 : decode cX1_weighCutting 37 = .ok (.isub, 1) := by decide +kernel
theorem dX1_weighCutting_38 : decode cX1_weighCutting 38 = .ok (.iaload, 1) := by decide +kernel
theorem dX1_weighCutting_39 : decode cX1_weighCutting 39 = .ok (.invokestatic 46, 3) := by decide +kernel
theorem dX1_weighCutting_42 : decode cX1_weighCutting 42 = .ok (.iastore, 1) := by decide +kernel
theorem dX1_weighCutting_43 : decode cX1_weighCutting 43 = .ok (.iinc 1 1, 3) := by decide +kernel
theorem dX1_weighCutting_46 : decode cX1_weighCutting 46 = .ok (.goto (-44), 3) := by decide +kernel
theorem dX1_weighCutting_49 : decode cX1_weighCutting 49 = .ok (.return_, 1) := by decide +kernel
theorem dX1_weighDrying_0 : decode cX1_weighDrying 0 = .ok (.iconst 0, 1) := by decide +kernel
theorem dX1_weighDrying_1 : decode cX1_weighDrying 1 = .ok (.istore_n 1, 1) := by decide +kernel
theorem dX1_weighDrying_2 : decode cX1_weighDrying 2 = .ok (.iload_n 1, 1) := by decide +kernel
theorem dX1_weighDrying_3 : decode cX1_weighDrying 3 = .ok (.aload_n 0, 1) := by decide +kernel
theorem dX1_weighDrying_4 : decode cX1_weighDrying 4 = .ok (.getfield 21, 3) := by decide +kernel
theorem dX1_weighDrying_7 : decode cX1_weighDrying 7 = .ok (.arraylength, 1) := by decide +kernel
theorem dX1_weighDrying_8 : decode cX1_weighDrying 8 = .ok (.if_icmp .ge 57, 3) := by decide +kernel
theorem dX1_weighDrying_11 : decode cX1_weighDrying 11 = .ok (.iload_n 1, 1) := by decide +kernel
theorem dX1_weighDrying_12 : decode cX1_weighDrying 12 = .ok (.iconst 1, 1) := by decide +kernel
theorem dX1_weighDrying_13 : decode cX1_weighDrying 13 = .ok (.iadd, 1) := by decide +kernel
theorem dX1_weighDrying_14 : decode cX1_weighDrying 14 = .ok (.aload_n 0, 1) := by decide +kernel
theorem dX1_weighDrying_15 : decode cX1_weighDrying 15 = .ok (.getfield 25, 3) := by decide +kernel
theorem dX1_weighDrying_18 : decode cX1_weighDrying 18 = .ok (.arraylength, 1) := by decide +kernel
theorem dX1_weighDrying_19 : decode cX1_weighDrying 19 = .ok (.if_icmp .ge 46, 3) := by decide +kernel
theorem dX1_weighDrying_22 : decode cX1_weighDrying 22 = .ok (.aload_n 0, 1) := by decide +kernel
theorem dX1_weighDrying_23 : decode cX1_weighDrying 23 = .ok (.getfield 25, 3) := by decide +kernel
theorem dX1_weighDrying_26 : decode cX1_weighDrying 26 = .ok (.iload_n 1, 1) := by decide +kernel
theorem dX1_weighDrying_27 : decode cX1_weighDrying 27 = .ok (.iconst 1, 1) := by decide +kernel
theorem dX1_weighDrying_28 : decode cX1_weighDrying 28 = .ok (.iadd, 1) := by decide +kernel
theorem dX1_weighDrying_29 : decode cX1_weighDrying 29 = .ok (.iaload, 1) := by decide +kernel
theorem dX1_weighDrying_30 : decode cX1_weighDrying 30 = .ok (.iconst (-1), 1) := by decide +kernel
theorem dX1_weighDrying_31 : decode cX1_weighDrying 31 = .ok (.if_icmp .eq 28, 3) := by decide +kernel
theorem dX1_weighDrying_34 : decode cX1_weighDrying 34 = .ok (.aload_n 0, 1) := by decide +kernel
theorem dX1_weighDrying_35 : decode cX1_weighDrying 35 = .ok (.getfield 21, 3) := by decide +kernel
theorem dX1_weighDrying_38 : decode cX1_weighDrying 38 = .ok (.iload_n 1, 1) := by decide +kernel
theorem dX1_weighDrying_39 : decode cX1_weighDrying 39 = .ok (.aload_n 0, 1) := by decide +kernel
theorem dX1_weighDrying_40 : decode cX1_weighDrying 40 = .ok (.getfield 21, 3) := by decide +kernel
theorem dX1_weighDrying_43 : decode cX1_weighDrying 43 = .ok (.iload_n 1, 1) := by decide +kernel
theorem dX1_weighDrying_44 : decode cX1_weighDrying 44 = .ok (.iaload, 1) := by decide +kernel
theorem dX1_weighDrying_45 : decode cX1_weighDrying 45 = .ok (.aload_n 0, 1) := by decide +kernel
theorem dX1_weighDrying_46 : decode cX1_weighDrying 46 = .ok (.getfield 25, 3) := by decide +kernel
theorem dX1_weighDrying_49 : decode cX1_weighDrying 49 = .ok (.iload_n 1, 1) := by decide +kernel
theorem dX1_weighDrying_50 : decode cX1_weighDrying 50 = .ok (.iconst 1, 1) := by decide +kernel
theorem dX1_weighDrying_51 : decode cX1_weighDrying 51 = .ok (.iadd, 1) := by decide +kernel
theorem dX1_weighDrying_52 : decode cX1_weighDrying 52 = .ok (.iaload, 1) := by decide +kernel
theorem dX1_weighDrying_53 : decode cX1_weighDrying 53 = .ok (.iconst 1, 1) := by decide +kernel
theorem dX1_weighDrying_54 : decode cX1_weighDrying 54 = .ok (.iadd, 1) := by decide +kernel
theorem dX1_weighDrying_55 : decode cX1_weighDrying 55 = .ok (.invokestatic 46, 3) := by decide +kernel
theorem dX1_weighDrying_58 : decode cX1_weighDrying 58 = .ok (.iastore, 1) := by decide +kernel
theorem dX1_weighDrying_59 : decode cX1_weighDrying 59 = .ok (.iinc 1 1, 3) := by decide +kernel
theorem dX1_weighDrying_62 : decode cX1_weighDrying 62 = .ok (.goto (-60), 3) := by decide +kernel
theorem dX1_weighDrying_65 : decode cX1_weighDrying 65 = .ok (.return_, 1) := by decide +kernel
theorem dX2_init_0 : decode cX2_init 0 = .ok (.aload_n 0, 1) := by decide +kernel
theorem dX2_init_1 : decode cX2_init 1 = .ok (.invokespecial 1, 3) := by decide +kernel
theorem dX2_init_4 : decode cX2_init 4 = .ok (.aload_n 0, 1) := by decide +kernel
theorem dX2_init_5 : decode cX2_init 5 = .ok (.iload_n 1, 1) := by decide +kernel
theorem dX2_init_6 : decode cX2_init 6 = .ok (.putfield 7, 3) := by decide +kernel
theorem dX2_init_9 : decode cX2_init 9 = .ok (.aload_n 0, 1) := by decide +kernel
theorem dX2_init_10 : decode cX2_init 10 = .ok (.iload_n 2, 1) := by decide +kernel
theorem dX2_init_11 : decode cX2_init 11 = .ok (.putfield 13, 3) := by decide +kernel
theorem dX2_init_14 : decode cX2_init 14 = .ok (.aload_n 0, 1) := by decide +kernel
theorem dX2_init_15 : decode cX2_init 15 = .ok (.iload_n 3, 1) := by decide +kernel
theorem dX2_init_16 : decode cX2_init 16 = .ok (.putfield 16, 3) := by decide +kernel
theorem dX2_init_19 : decode cX2_init 19 = .ok (.aload_n 0, 1) := by decide +kernel
theorem dX2_init_20 : decode cX2_init 20 = .ok (.iload 4, 2) := by decide +kernel
theorem dX2_init_22 : decode cX2_init 22 = .ok (.putfield 19, 3) := by decide +kernel
theorem dX2_init_25 : decode cX2_init 25 = .ok (.aload_n 0, 1) := by decide +kernel
theorem dX2_init_26 : decode cX2_init 26 = .ok (.iload 5, 2) := by decide +kernel
theorem dX2_init_28 : decode cX2_init 28 = .ok (.putfield 23, 3) := by decide +kernel
theorem dX2_init_31 : decode cX2_init 31 = .ok (.return_, 1) := by decide +kernel
theorem dX3_init_0 : decode cX3_init 0 = .ok (.aload_n 0, 1) := by decide +kernel
theorem dX3_init_1 : decode cX3_init 1 = .ok (.invokespecial 3, 3) := by decide +kernel
theorem dX3_init_4 : decode cX3_init 4 = .ok (.aload_n 0, 1) := by decide +kernel
theorem dX3_init_5 : decode cX3_init 5 = .ok (.aload_n 1, 1) := by decide +kernel
theorem dX3_init_6 : decode cX3_init 6 = .ok (.putfield 9, 3) := by decide +kernel
theorem dX3_init_9 : decode cX3_init 9 = .ok (.return_, 1) := by decide +kernel
theorem dX3_passDay_0 : decode cX3_passDay 0 = .ok (.iload_n 1, 1) := by decide +kernel
theorem dX3_passDay_1 : decode cX3_passDay 1 = .ok (.iconst 3, 1) := by decide +kernel
theorem dX3_passDay_2 : decode cX3_passDay 2 = .ok (.if_icmp .lt 49, 3) := by decide +kernel
theorem dX3_passDay_5 : decode cX3_passDay 5 = .ok (.aload_n 0, 1) := by decide +kernel
theorem dX3_passDay_6 : decode cX3_passDay 6 = .ok (.getfield 15, 3) := by decide +kernel
theorem dX3_passDay_9 : decode cX3_passDay 9 = .ok (.iconst 2, 1) := by decide +kernel
theorem dX3_passDay_10 : decode cX3_passDay 10 = .ok (.idiv, 1) := by decide +kernel
theorem dX3_passDay_11 : decode cX3_passDay 11 = .ok (.istore_n 2, 1) := by decide +kernel
theorem dX3_passDay_12 : decode cX3_passDay 12 = .ok (.aload_n 0, 1) := by decide +kernel
theorem dX3_passDay_13 : decode cX3_passDay 13 = .ok (.getfield 9, 3) := by decide +kernel
theorem dX3_passDay_16 : decode cX3_passDay 16 = .ok (.dup, 1) := by decide +kernel
theorem dX3_passDay_17 : decode cX3_passDay 17 = .ok (.getfield 19, 3) := by decide +kernel
theorem dX3_passDay_20 : decode cX3_passDay 20 = .ok (.iload_n 2, 1) := by decide +kernel
theorem dX3_passDay_21 : decode cX3_passDay 21 = .ok (.iadd, 1) := by decide +kernel
theorem dX3_passDay_22 : decode cX3_passDay 22 = .ok (.putfield 19, 3) := by decide +kernel
theorem dX3_passDay_25 : decode cX3_passDay 25 = .ok (.aload_n 0, 1) := by decide +kernel
theorem dX3_passDay_26 : decode cX3_passDay 26 = .ok (.getfield 9, 3) := by decide +kernel
theorem dX3_passDay_29 : decode cX3_passDay 29 = .ok (.dup, 1) := by decide +kernel
theorem dX3_passDay_30 : decode cX3_passDay 30 = .ok (.getfield 24, 3) := by decide +kernel
theorem dX3_passDay_33 : decode cX3_passDay 33 = .ok (.aload_n 0, 1) := by decide +kernel
theorem dX3_passDay_34 : decode cX3_passDay 34 = .ok (.getfield 15, 3) := by decide +kernel
theorem dX3_passDay_37 : decode cX3_passDay 37 = .ok (.iload_n 2, 1) := by decide +kernel
theorem dX3_passDay_38 : decode cX3_passDay 38 = .ok (.isub, 1) := by decide +kernel
theorem dX3_passDay_39 : decode cX3_passDay 39 = .ok (.iadd, 1) := by decide +kernel
theorem dX3_passDay_40 : decode cX3_passDay 40 = .ok (.putfield 24, 3) := by decide +kernel
theorem dX3_passDay_43 : decode cX3_passDay 43 = .ok (.aload_n 0, 1) := by decide +kernel
theorem dX3_passDay_44 : decode cX3_passDay 44 = .ok (.iconst 0, 1) := by decide +kernel
theorem dX3_passDay_45 : decode cX3_passDay 45 = .ok (.putfield 27, 3) := by decide +kernel
theorem dX3_passDay_48 : decode cX3_passDay 48 = .ok (.goto 42, 3) := by decide +kernel
theorem dX3_passDay_51 : decode cX3_passDay 51 = .ok (.aload_n 0, 1) := by decide +kernel
theorem dX3_passDay_52 : decode cX3_passDay 52 = .ok (.dup, 1) := by decide +kernel
theorem dX3_passDay_53 : decode cX3_passDay 53 = .ok (.getfield 27, 3) := by decide +kernel
theorem dX3_passDay_56 : decode cX3_passDay 56 = .ok (.iconst 1, 1) := by decide +kernel
theorem dX3_passDay_57 : decode cX3_passDay 57 = .ok (.isub, 1) := by decide +kernel
theorem dX3_passDay_58 : decode cX3_passDay 58 = .ok (.putfield 27, 3) := by decide +kernel
theorem dX3_passDay_61 : decode cX3_passDay 61 = .ok (.aload_n 0, 1) := by decide +kernel
theorem dX3_passDay_62 : decode cX3_passDay 62 = .ok (.getfield 9, 3) := by decide +kernel
theorem dX3_passDay_65 : decode cX3_passDay 65 = .ok (.dup, 1) := by decide +kernel
theorem dX3_passDay_66 : decode cX3_passDay 66 = .ok (.getfield 30, 3) := by decide +kernel
theorem dX3_passDay_69 : decode cX3_passDay 69 = .ok (.aload_n 0, 1) := by decide +kernel
theorem dX3_passDay_70 : decode cX3_passDay 70 = .ok (.getfield 27, 3) := by decide +kernel
theorem dX3_passDay_73 : decode cX3_passDay 73 = .ok (.ifCond .ne 12, 3) := by decide +kernel
theorem dX3_passDay_76 : decode cX3_passDay 76 = .ok (.aload_n 0, 1) := by decide +kernel
theorem dX3_passDay_77 : decode cX3_passDay 77 = .ok (.getfield 15, 3) := by decide +kernel
theorem dX3_passDay_80 : decode cX3_passDay 80 = .ok (.iconst 5, 1) := by decide +kernel
theorem dX3_passDay_81 : decode cX3_passDay 81 = .ok (.idiv, 1) := by decide +kernel
theorem dX3_passDay_82 : decode cX3_passDay 82 = .ok (.goto 4, 3) := by decide +kernel
theorem dX3_passDay_85 : decode cX3_passDay 85 = .ok (.iconst 0, 1) := by decide +kernel
theorem dX3_passDay_86 : decode cX3_passDay 86 = .ok (.iadd, 1) := by decide +kernel
theorem dX3_passDay_87 : decode cX3_passDay 87 = .ok (.putfield 30, 3) := by decide +kernel
theorem dX3_passDay_90 : decode cX3_passDay 90 = .ok (.return_, 1) := by decide +kernel
theorem dX4_init_0 : decode cX4_init 0 = .ok (.aload_n 0, 1) := by decide +kernel
theorem dX4_init_1 : decode cX4_init 1 = .ok (.invokespecial 3, 3) := by decide +kernel
theorem dX4_init_4 : decode cX4_init 4 = .ok (.aload_n 0, 1) := by decide +kernel
theorem dX4_init_5 : decode cX4_init 5 = .ok (.bipush 15, 2) := by decide +kernel
theorem dX4_init_7 : decode cX4_init 7 = .ok (.newarray .int, 2) := by decide +kernel
theorem dX4_init_9 : decode cX4_init 9 = .ok (.putfield 9, 3) := by decide +kernel
theorem dX4_init_12 : decode cX4_init 12 = .ok (.aload_n 0, 1) := by decide +kernel
theorem dX4_init_13 : decode cX4_init 13 = .ok (.bipush 15, 2) := by decide +kernel
theorem dX4_init_15 : decode cX4_init 15 = .ok (.newarray .int, 2) := by decide +kernel
theorem dX4_init_17 : decode cX4_init 17 = .ok (.putfield 15, 3) := by decide +kernel
theorem dX4_init_20 : decode cX4_init 20 = .ok (.aload_n 0, 1) := by decide +kernel
theorem dX4_init_21 : decode cX4_init 21 = .ok (.bipush 15, 2) := by decide +kernel
theorem dX4_init_23 : decode cX4_init 23 = .ok (.newarray .int, 2) := by decide +kernel
theorem dX4_init_25 : decode cX4_init 25 = .ok (.putfield 18, 3) := by decide +kernel
theorem dX4_init_28 : decode cX4_init 28 = .ok (.aload_n 0, 1) := by decide +kernel
theorem dX4_init_29 : decode cX4_init 29 = .ok (.bipush 15, 2) := by decide +kernel
theorem dX4_init_31 : decode cX4_init 31 = .ok (.newarray .int, 2) := by decide +kernel
theorem dX4_init_33 : decode cX4_init 33 = .ok (.putfield 21, 3) := by decide +kernel
theorem dX4_init_36 : decode cX4_init 36 = .ok (.aload_n 0, 1) := by decide +kernel
theorem dX4_init_37 : decode cX4_init 37 = .ok (.bipush 15, 2) := by decide +kernel
theorem dX4_init_39 : decode cX4_init 39 = .ok (.newarray .int, 2) := by decide +kernel
theorem dX4_init_41 : decode cX4_init 41 = .ok (.putfield 24, 3) := by decide +kernel
theorem dX4_init_44 : decode cX4_init 44 = .ok (.aload_n 0, 1) := by decide +kernel
theorem dX4_init_45 : decode cX4_init 45 = .ok (.iconst 2, 1) := by decide +kernel
theorem dX4_init_46 : decode cX4_init 46 = .ok (.putfield 27, 3) := by decide +kernel
theorem dX4_init_49 : decode cX4_init 49 = .ok (.return_, 1) := by decide +kernel
theorem dX4_forgetAll_0 : decode cX4_forgetAll 0 = .ok (.aload_n 0, 1) := by decide +kernel
theorem dX4_forgetAll_1 : decode cX4_forgetAll 1 = .ok (.iconst 0, 1) := by decide +kernel
theorem dX4_forgetAll_2 : decode cX4_forgetAll 2 = .ok (.putfield 31, 3) := by decide +kernel
theorem dX4_forgetAll_5 : decode cX4_forgetAll 5 = .ok (.aload_n 0, 1) := by decide +kernel
theorem dX4_forgetAll_6 : decode cX4_forgetAll 6 = .ok (.iconst 2, 1) := by decide +kernel
theorem dX4_forgetAll_7 : decode cX4_forgetAll 7 = .ok (.putfield 27, 3) := by decide +kernel
theorem dX4_forgetAll_10 : decode cX4_forgetAll 10 = .ok (.return_, 1) := by decide +kernel
theorem dX4_addPart_0 : decode cX4_addPart 0 = .ok (.aload_n 0, 1) := by decide +kernel
theorem dX4_addPart_1 : decode cX4_addPart 1 = .ok (.getfield 31, 3) := by decide +kernel
theorem dX4_addPart_4 : decode cX4_addPart 4 = .ok (.bipush 15, 2) := by decide +kernel
theorem dX4_addPart_6 : decode cX4_addPart 6 = .ok (.if_icmp .lt 4, 3) := by decide +kernel
theorem dX4_addPart_9 : decode cX4_addPart 9 = .ok (.return_, 1) := by decide +kernel
theorem dX4_addPart_10 : decode cX4_addPart 10 = .ok (.aload_n 0, 1) := by decide +kernel
theorem dX4_addPart_11 : decode cX4_addPart 11 = .ok (.getfield 9, 3) := by decide +kernel
theorem dX4_addPart_14 : decode cX4_addPart 14 = .ok (.aload_n 0, 1) := by decide +kernel
theorem dX4_addPart_15 : decode cX4_addPart 15 = .ok (.getfield 31, 3) := by decide +kernel
theorem dX4_addPart_18 : decode cX4_addPart 18 = .ok (.iload_n 1, 1) := by decide +kernel
theorem dX4_addPart_19 : decode cX4_addPart 19 = .ok (.iastore, 1) := by decide +kernel
theorem dX4_addPart_20 : decode cX4_addPart 20 = .ok (.aload_n 0, 1) := by decide +kernel
theorem dX4_addPart_21 : decode cX4_addPart 21 = .ok (.getfield 15, 3) := by decide +kernel
theorem dX4_addPart_24 : decode cX4_addPart 24 = .ok (.aload_n 0, 1) := by decide +kernel
theorem dX4_addPart_25 : decode cX4_addPart 25 = .ok (.getfield 31, 3) := by decide +kernel
theorem dX4_addPart_28 : decode cX4_addPart 28 = .ok (.iload_n 2, 1) := by decide +kernel
theorem dX4_addPart_29 : decode cX4_addPart 29 = .ok (.iastore, 1) := by decide +kernel
theorem dX4_addPart_30 : decode cX4_addPart 30 = .ok (.aload_n 0, 1) := by decide +kernel
theorem dX4_addPart_31 : decode cX4_addPart 31 = .ok (.getfield 18, 3) := by decide +kernel
theorem dX4_addPart_34 : decode cX4_addPart 34 = .ok (.aload_n 0, 1) := by decide +kernel
theorem dX4_addPart_35 : decode cX4_addPart 35 = .ok (.getfield 31, 3) := by decide +kernel
theorem dX4_addPart_38 : decode cX4_addPart 38 = .ok (.iload_n 3, 1) := by decide +kernel
theorem dX4_addPart_39 : decode cX4_addPart 39 = .ok (.iastore, 1) := by decide +kernel
theorem dX4_addPart_40 : decode cX4_addPart 40 = .ok (.aload_n 0, 1) := by decide +kernel
theorem dX4_addPart_41 : decode cX4_addPart 41 = .ok (.getfield 21, 3) := by decide +kernel
theorem dX4_addPart_44 : decode cX4_addPart 44 = .ok (.aload_n 0, 1) := by decide +kernel
theorem dX4_addPart_45 : decode cX4_addPart 45 = .ok (.getfield 31, 3) := by decide +kernel
theorem dX4_addPart_48 : decode cX4_addPart 48 = .ok (.iload 4, 2) := by decide +kernel
theorem dX4_addPart_50 : decode cX4_addPart 50 = .ok (.iastore, 1) := by decide +kernel
theorem dX4_addPart_51 : decode cX4_addPart 51 = .ok (.aload_n 0, 1) := by decide +kernel
theorem dX4_addPart_52 : decode cX4_addPart 52 = .ok (.getfield 24, 3) := by decide +kernel
theorem dX4_addPart_55 : decode cX4_addPart 55 = .ok (.aload_n 0, 1) := by decide +kernel
theorem dX4_addPart_56 : decode cX4_addPart 56 = .ok (.getfield 31, 3) := by decide +kernel
theorem dX4_addPart_59 : decode cX4_addPart 59 = .ok (.iload 5, 2) := by decide +kernel
theorem dX4_addPart_61 : decode cX4_addPart 61 = .ok (.iastore, 1) := by decide +kernel
theorem dX4_addPart_62 : decode cX4_addPart 62 = .ok (.aload_n 0, 1) := by decide +kernel
theorem dX4_addPart_63 : decode cX4_addPart 63 = .ok (.dup, 1) := by decide +kernel
theorem dX4_addPart_64 : decode cX4_addPart 64 = .ok (.getfield 31, 3) := by decide +kernel
theorem dX4_addPart_67 : decode cX4_addPart 67 = .ok (.iconst 1, 1) := by decide +kernel
theorem dX4_addPart_68 : decode cX4_addPart 68 = .ok (.iadd, 1) := by decide +kernel
theorem dX4_addPart_69 : decode cX4_addPart 69 = .ok (.putfield 31, 3) := by decide +kernel
theorem dX4_addPart_72 : decode cX4_addPart 72 = .ok (.return_, 1) := by decide +kernel
set_option maxRecDepth 20000 in
theorem ggX4_firstPart_X9_isWithin : GoodIn wsX4_firstPart wsX9_isWithin := goodIn_r _ [8] (by decide +kernel) (by decide +kernel)
set_option maxRecDepth 20000 in
theorem gX4_firstPart_X9_isWithin_n34 : GoodIn wsX4_firstPart (wsX9_isWithin) := ggX4_firstPart_X9_isWithin
theorem dX4_firstPart_0 : decode cX4_firstPart 0 = .ok (.iconst 0, 1) := by decide +kernel
theorem dX4_firstPart_1 : decode cX4_firstPart 1 = .ok (.istore 4, 2) := by decide +kernel
theorem dX4_firstPart_3 : decode cX4_firstPart 3 = .ok (.iload 4, 2) := by decide +kernel
theorem dX4_firstPart_5 : decode cX4_firstPart 5 = .ok (.aload_n 0, 1) := by decide +kernel
theorem dX4_firstPart_6 : decode cX4_firstPart 6 = .ok (.getfield 31, 3) := by decide +kernel
theorem dX4_firstPart_9 : decode cX4_firstPart 9 = .ok (.if_icmp .ge 62, 3) := by decide +kernel
theorem dX4_firstPart_12 : decode cX4_firstPart 12 = .ok (.iload 4, 2) := by decide +kernel
theorem dX4_firstPart_14 : decode cX4_firstPart 14 = .ok (.bipush 15, 2) := by decide +kernel
theorem dX4_firstPart_16 : decode cX4_firstPart 16 = .ok (.if_icmp .ge 55, 3) := by decide +kernel
theorem dX4_firstPart_19 : decode cX4_firstPart 19 = .ok (.aload_n 0, 1) := by decide +kernel
theorem dX4_firstPart_20 : decode cX4_firstPart 20 = .ok (.getfield 9, 3) := by decide +kernel
theorem dX4_firstPart_23 : decode cX4_firstPart 23 = .ok (.iload 4, 2) := by decide +kernel
theorem dX4_firstPart_25 : decode cX4_firstPart 25 = .ok (.iaload, 1) := by decide +kernel
theorem dX4_firstPart_26 : decode cX4_firstPart 26 = .ok (.iload_n 1, 1) := by decide +kernel
theorem dX4_firstPart_27 : decode cX4_firstPart 27 = .ok (.if_icmp .ne 38, 3) := by decide +kernel
theorem dX4_firstPart_30 : decode cX4_firstPart 30 = .ok (.aload_n 0, 1) := by decide +kernel
theorem dX4_firstPart_31 : decode cX4_firstPart 31 = .ok (.getfield 15, 3) := by decide +kernel
theorem dX4_firstPart_34 : decode cX4_firstPart 34 = .ok (.iload 4, 2) := by decide +kernel
theorem dX4_firstPart_36 : decode cX4_firstPart 36 = .ok (.iaload, 1) := by decide +kernel
theorem dX4_firstPart_37 : decode cX4_firstPart 37 = .ok (.iload_n 2, 1) := by decide +kernel
theorem dX4_firstPart_38 : decode cX4_firstPart 38 = .ok (.if_icmp .ne 27, 3) := by decide +kernel
theorem dX4_firstPart_41 : decode cX4_firstPart 41 = .ok (.iload_n 3, 1) := by decide +kernel
theorem dX4_firstPart_42 : decode cX4_firstPart 42 = .ok (.aload_n 0, 1) := by decide +kernel
theorem dX4_firstPart_43 : decode cX4_firstPart 43 = .ok (.getfield 18, 3) := by decide +kernel
theorem dX4_firstPart_46 : decode cX4_firstPart 46 = .ok (.iload 4, 2) := by decide +kernel
theorem dX4_firstPart_48 : decode cX4_firstPart 48 = .ok (.iaload, 1) := by decide +kernel
theorem dX4_firstPart_49 : decode cX4_firstPart 49 = .ok (.aload_n 0, 1) := by decide +kernel
theorem dX4_firstPart_50 : decode cX4_firstPart 50 = .ok (.getfield 21, 3) := by decide +kernel
theorem dX4_firstPart_53 : decode cX4_firstPart 53 = .ok (.iload 4, 2) := by decide +kernel
theorem dX4_firstPart_55 : decode cX4_firstPart 55 = .ok (.iaload, 1) := by decide +kernel
theorem dX4_firstPart_56 : decode cX4_firstPart 56 = .ok (.invokestatic 34, 3) := by decide +kernel
theorem dX4_firstPart_59 : decode cX4_firstPart 59 = .ok (.ifCond .eq 6, 3) := by decide +kernel
theorem dX4_firstPart_62 : decode cX4_firstPart 62 = .ok (.iload 4, 2) := by decide +kernel
theorem dX4_firstPart_64 : decode cX4_firstPart 64 = .ok (.ireturn, 1) := by decide +kernel
theorem dX4_firstPart_65 : decode cX4_firstPart 65 = .ok (.iinc 4 1, 3) := by decide +kernel
theorem dX4_firstPart_68 : decode cX4_firstPart 68 = .ok (.goto (-65), 3) := by decide +kernel
theorem dX4_firstPart_71 : decode cX4_firstPart 71 = .ok (.iconst (-1), 1) := by decide +kernel
theorem dX4_firstPart_72 : decode cX4_firstPart 72 = .ok (.ireturn, 1) := by decide +kernel
theorem dX4_shareOf_0 : decode cX4_shareOf 0 = .ok (.iload_n 1, 1) := by decide +kernel
theorem dX4_shareOf_1 : decode cX4_shareOf 1 = .ok (.ifCond .lt 12, 3) := by decide +kernel
theorem dX4_shareOf_4 : decode cX4_shareOf 4 = .ok (.iload_n 1, 1) := by decide +kernel
theorem dX4_shareOf_5 : decode cX4_shareOf 5 = .ok (.aload_n 0, 1) := by decide +kernel
theorem dX4_shareOf_6 : decode cX4_shareOf 6 = .ok (.getfield 24, 3) := by decide +kernel
theorem dX4_shareOf_9 : decode cX4_shareOf 9 = .ok (.arraylength, 1) := by decide +kernel
theorem dX4_shareOf_10 : decode cX4_shareOf 10 = .ok (.if_icmp .lt 7, 3) := by decide +kernel
theorem dX4_shareOf_13 : decode cX4_shareOf 13 = .ok (.iconst 0, 1) := by decide +kernel
theorem dX4_shareOf_14 : decode cX4_shareOf 14 = .ok (.goto 9, 3) := by decide +kernel
theorem dX4_shareOf_17 : decode cX4_shareOf 17 = .ok (.aload_n 0, 1) := by decide +kernel
theorem dX4_shareOf_18 : decode cX4_shareOf 18 = .ok (.getfield 24, 3) := by decide +kernel
theorem dX4_shareOf_21 : decode cX4_shareOf 21 = .ok (.iload_n 1, 1) := by decide +kernel
theorem dX4_shareOf_22 : decode cX4_shareOf 22 = .ok (.iaload, 1) := by decide +kernel
theorem dX4_shareOf_23 : decode cX4_shareOf 23 = .ok (.ireturn, 1) := by decide +kernel
theorem dX5_init_0 : decode cX5_init 0 = .ok (.aload_n 0, 1) := by decide +kernel
theorem dX5_init_1 : decode cX5_init 1 = .ok (.invokespecial 3, 3) := by decide +kernel
theorem dX5_init_4 : decode cX5_init 4 = .ok (.aload_n 0, 1) := by decide +kernel
theorem dX5_init_5 : decode cX5_init 5 = .ok (.iconst (-1), 1) := by decide +kernel
theorem dX5_init_6 : decode cX5_init 6 = .ok (.putfield 9, 3) := by decide +kernel
theorem dX5_init_9 : decode cX5_init 9 = .ok (.aload_n 0, 1) := by decide +kernel
theorem dX5_init_10 : decode cX5_init 10 = .ok (.iconst (-1), 1) := by decide +kernel
theorem dX5_init_11 : decode cX5_init 11 = .ok (.putfield 15, 3) := by decide +kernel
theorem dX5_init_14 : decode cX5_init 14 = .ok (.aload_n 0, 1) := by decide +kernel
theorem dX5_init_15 : decode cX5_init 15 = .ok (.iconst (-1), 1) := by decide +kernel
theorem dX5_init_16 : decode cX5_init 16 = .ok (.putfield 18, 3) := by decide +kernel
theorem dX5_init_19 : decode cX5_init 19 = .ok (.aload_n 0, 1) := by decide +kernel
theorem dX5_init_20 : decode cX5_init 20 = .ok (.iload_n 1, 1) := by decide +kernel
theorem dX5_init_21 : decode cX5_init 21 = .ok (.putfield 21, 3) := by decide +kernel
theorem dX5_init_24 : decode cX5_init 24 = .ok (.aload_n 0, 1) := by decide +kernel
theorem dX5_init_25 : decode cX5_init 25 = .ok (.iload_n 2, 1) := by decide +kernel
theorem dX5_init_26 : decode cX5_init 26 = .ok (.putfield 24, 3) := by decide +kernel
theorem dX5_init_29 : decode cX5_init 29 = .ok (.aload_n 0, 1) := by decide +kernel
theorem dX5_init_30 : decode cX5_init 30 = .ok (.iload_n 2, 1) := by decide +kernel
theorem dX5_init_31 : decode cX5_init 31 = .ok (.putfield 27, 3) := by decide +kernel
theorem dX5_init_34 : decode cX5_init 34 = .ok (.aload_n 0, 1) := by decide +kernel
theorem dX5_init_35 : decode cX5_init 35 = .ok (.iload_n 2, 1) := by decide +kernel
theorem dX5_init_36 : decode cX5_init 36 = .ok (.putfield 30, 3) := by decide +kernel
theorem dX5_init_39 : decode cX5_init 39 = .ok (.return_, 1) := by decide +kernel
theorem dX5_growAgain_0 : decode cX5_growAgain 0 = .ok (.aload_n 0, 1) := by decide +kernel
theorem dX5_growAgain_1 : decode cX5_growAgain 1 = .ok (.getfield 24, 3) := by decide +kernel
theorem dX5_growAgain_4 : decode cX5_growAgain 4 = .ok (.aload_n 0, 1) := by decide +kernel
theorem dX5_growAgain_5 : decode cX5_growAgain 5 = .ok (.getfield 27, 3) := by decide +kernel
theorem dX5_growAgain_8 : decode cX5_growAgain 8 = .ok (.isub, 1) := by decide +kernel
theorem dX5_growAgain_9 : decode cX5_growAgain 9 = .ok (.iconst 3, 1) := by decide +kernel
theorem dX5_growAgain_10 : decode cX5_growAgain 10 = .ok (.iadd, 1) := by decide +kernel
theorem dX5_growAgain_11 : decode cX5_growAgain 11 = .ok (.iconst 4, 1) := by decide +kernel
theorem dX5_growAgain_12 : decode cX5_growAgain 12 = .ok (.idiv, 1) := by decide +kernel
theorem dX5_growAgain_13 : decode cX5_growAgain 13 = .ok (.istore_n 1, 1) := by decide +kernel
theorem dX5_growAgain_14 : decode cX5_growAgain 14 = .ok (.aload_n 0, 1) := by decide +kernel
theorem dX5_growAgain_15 : decode cX5_growAgain 15 = .ok (.dup, 1) := by decide +kernel
theorem dX5_growAgain_16 : decode cX5_growAgain 16 = .ok (.getfield 27, 3) := by decide +kernel
theorem dX5_growAgain_19 : decode cX5_growAgain 19 = .ok (.iload_n 1, 1) := by decide +kernel
theorem dX5_growAgain_20 : decode cX5_growAgain 20 = .ok (.iadd, 1) := by decide +kernel
theorem dX5_growAgain_21 : decode cX5_growAgain 21 = .ok (.putfield 27, 3) := by decide +kernel
theorem dX5_growAgain_24 : decode cX5_growAgain 24 = .ok (.aload_n 0, 1) := by decide +kernel
theorem dX5_growAgain_25 : decode cX5_growAgain 25 = .ok (.dup, 1) := by decide +kernel
theorem dX5_growAgain_26 : decode cX5_growAgain 26 = .ok (.getfield 30, 3) := by decide +kernel
theorem dX5_growAgain_29 : decode cX5_growAgain 29 = .ok (.iload_n 1, 1) := by decide +kernel
theorem dX5_growAgain_30 : decode cX5_growAgain 30 = .ok (.iadd, 1) := by decide +kernel
theorem dX5_growAgain_31 : decode cX5_growAgain 31 = .ok (.putfield 30, 3) := by decide +kernel
theorem dX5_growAgain_34 : decode cX5_growAgain 34 = .ok (.return_, 1) := by decide +kernel
theorem dX5_loseToStorm_0 : decode cX5_loseToStorm 0 = .ok (.aload_n 0, 1) := by decide +kernel
theorem dX5_loseToStorm_1 : decode cX5_loseToStorm 1 = .ok (.getfield 21, 3) := by decide +kernel
theorem dX5_loseToStorm_4 : decode cX5_loseToStorm 4 = .ok (.iload_n 1, 1) := by decide +kernel
theorem dX5_loseToStorm_5 : decode cX5_loseToStorm 5 = .ok (.if_icmp .le 7, 3) := by decide +kernel
theorem dX5_loseToStorm_8 : decode cX5_loseToStorm 8 = .ok (.iconst 0, 1) := by decide +kernel
theorem dX5_loseToStorm_9 : decode cX5_loseToStorm 9 = .ok (.goto 12, 3) := by decide +kernel
theorem dX5_loseToStorm_12 : decode cX5_loseToStorm 12 = .ok (.aload_n 0, 1) := by decide +kernel
theorem dX5_loseToStorm_13 : decode cX5_loseToStorm 13 = .ok (.getfield 27, 3) := by decide +kernel
theorem dX5_loseToStorm_16 : decode cX5_loseToStorm 16 = .ok (.iload_n 1, 1) := by decide +kernel
theorem dX5_loseToStorm_17 : decode cX5_loseToStorm 17 = .ok (.imul, 1) := by decide +kernel
theorem dX5_loseToStorm_18 : decode cX5_loseToStorm 18 = .ok (.bipush 100, 2) := by decide +kernel
theorem dX5_loseToStorm_20 : decode cX5_loseToStorm 20 = .ok (.idiv, 1) := by decide +kernel
theorem dX5_loseToStorm_21 : decode cX5_loseToStorm 21 = .ok (.istore_n 2, 1) := by decide +kernel
theorem dX5_loseToStorm_22 : decode cX5_loseToStorm 22 = .ok (.aload_n 0, 1) := by decide +kernel
theorem dX5_loseToStorm_23 : decode cX5_loseToStorm 23 = .ok (.dup, 1) := by decide +kernel
theorem dX5_loseToStorm_24 : decode cX5_loseToStorm 24 = .ok (.getfield 27, 3) := by decide +kernel
theorem dX5_loseToStorm_27 : decode cX5_loseToStorm 27 = .ok (.iload_n 2, 1) := by decide +kernel
theorem dX5_loseToStorm_28 : decode cX5_loseToStorm 28 = .ok (.isub, 1) := by decide +kernel
theorem dX5_loseToStorm_29 : decode cX5_loseToStorm 29 = .ok (.putfield 27, 3) := by decide +kernel
theorem dX5_loseToStorm_32 : decode cX5_loseToStorm 32 = .ok (.aload_n 0, 1) := by decide +kernel
theorem dX5_loseToStorm_33 : decode cX5_loseToStorm 33 = .ok (.dup, 1) := by decide +kernel
theorem dX5_loseToStorm_34 : decode cX5_loseToStorm 34 = .ok (.getfield 33, 3) := by decide +kernel
theorem dX5_loseToStorm_37 : decode cX5_loseToStorm 37 = .ok (.iload_n 2, 1) := by decide +kernel
theorem dX5_loseToStorm_38 : decode cX5_loseToStorm 38 = .ok (.iadd, 1) := by decide +kernel
theorem dX5_loseToStorm_39 : decode cX5_loseToStorm 39 = .ok (.putfield 33, 3) := by decide +kernel
theorem dX5_loseToStorm_42 : decode cX5_loseToStorm 42 = .ok (.iload_n 2, 1) := by decide +kernel
theorem dX5_loseToStorm_43 : decode cX5_loseToStorm 43 = .ok (.ireturn, 1) := by decide +kernel
theorem dX5_mustRest_0 : decode cX5_mustRest 0 = .ok (.aload_n 0, 1) := by decide +kernel
theorem dX5_mustRest_1 : decode cX5_mustRest 1 = .ok (.getfield 15, 3) := by decide +kernel
theorem dX5_mustRest_4 : decode cX5_mustRest 4 = .ok (.iload_n 2, 1) := by decide +kernel
theorem dX5_mustRest_5 : decode cX5_mustRest 5 = .ok (.if_icmp .ne 15, 3) := by decide +kernel
theorem dX5_mustRest_8 : decode cX5_mustRest 8 = .ok (.aload_n 0, 1) := by decide +kernel
theorem dX5_mustRest_9 : decode cX5_mustRest 9 = .ok (.getfield 18, 3) := by decide +kernel
theorem dX5_mustRest_12 : decode cX5_mustRest 12 = .ok (.iload_n 1, 1) := by decide +kernel
theorem dX5_mustRest_13 : decode cX5_mustRest 13 = .ok (.if_icmp .ne 7, 3) := by decide +kernel
theorem dX5_mustRest_16 : decode cX5_mustRest 16 = .ok (.iconst 1, 1) := by decide +kernel
theorem dX5_mustRest_17 : decode cX5_mustRest 17 = .ok (.goto 4, 3) := by decide +kernel
theorem dX5_mustRest_20 : decode cX5_mustRest 20 = .ok (.iconst 0, 1) := by decide +kernel
theorem dX5_mustRest_21 : decode cX5_mustRest 21 = .ok (.istore 4, 2) := by decide +kernel
theorem dX5_mustRest_23 : decode cX5_mustRest 23 = .ok (.aload_n 0, 1) := by decide +kernel
theorem dX5_mustRest_24 : decode cX5_mustRest 24 = .ok (.getfield 9, 3) := by decide +kernel
theorem dX5_mustRest_27 : decode cX5_mustRest 27 = .ok (.iconst (-1), 1) := by decide +kernel
theorem dX5_mustRest_28 : decode cX5_mustRest 28 = .ok (.if_icmp .eq 25, 3) := by decide +kernel
theorem dX5_mustRest_31 : decode cX5_mustRest 31 = .ok (.iload 4, 2) := by decide +kernel
theorem dX5_mustRest_33 : decode cX5_mustRest 33 = .ok (.ifCond .ne 20, 3) := by decide +kernel
theorem dX5_mustRest_36 : decode cX5_mustRest 36 = .ok (.iload_n 2, 1) := by decide +kernel
theorem dX5_mustRest_37 : decode cX5_mustRest 37 = .ok (.bipush 100, 2) := by decide +kernel
theorem dX5_mustRest_39 : decode cX5_mustRest 39 = .ok (.idiv, 1) := by decide +kernel
theorem dX5_mustRest_40 : decode cX5_mustRest 40 = .ok (.aload_n 0, 1) := by decide +kernel
theorem dX5_mustRest_41 : decode cX5_mustRest 41 = .ok (.getfield 9, 3) := by decide +kernel
theorem dX5_mustRest_44 : decode cX5_mustRest 44 = .ok (.isub, 1) := by decide +kernel
theorem dX5_mustRest_45 : decode cX5_mustRest 45 = .ok (.iload_n 3, 1) := by decide +kernel
theorem dX5_mustRest_46 : decode cX5_mustRest 46 = .ok (.if_icmp .gt 7, 3) := by decide +kernel
theorem dX5_mustRest_49 : decode cX5_mustRest 49 = .ok (.iconst 1, 1) := by decide +kernel
theorem dX5_mustRest_50 : decode cX5_mustRest 50 = .ok (.goto 4, 3) := by decide +kernel
theorem dX5_mustRest_53 : decode cX5_mustRest 53 = .ok (.iconst 0, 1) := by decide +kernel
theorem dX5_mustRest_54 : decode cX5_mustRest 54 = .ok (.ireturn, 1) := by decide +kernel
theorem dX5_loseToCutting_0 : decode cX5_loseToCutting 0 = .ok (.aload_n 0, 1) := by decide +kernel
theorem dX5_loseToCutting_1 : decode cX5_loseToCutting 1 = .ok (.dup, 1) := by decide +kernel
theorem dX5_loseToCutting_2 : decode cX5_loseToCutting 2 = .ok (.getfield 27, 3) := by decide +kernel
theorem dX5_loseToCutting_5 : decode cX5_loseToCutting 5 = .ok (.iload_n 1, 1) := by decide +kernel
theorem dX5_loseToCutting_6 : decode cX5_loseToCutting 6 = .ok (.isub, 1) := by decide +kernel
theorem dX5_loseToCutting_7 : decode cX5_loseToCutting 7 = .ok (.putfield 27, 3) := by decide +kernel
theorem dX5_loseToCutting_10 : decode cX5_loseToCutting 10 = .ok (.aload_n 0, 1) := by decide +kernel
theorem dX5_loseToCutting_11 : decode cX5_loseToCutting 11 = .ok (.dup, 1) := by decide +kernel
theorem dX5_loseToCutting_12 : decode cX5_loseToCutting 12 = .ok (.getfield 36, 3) := by decide +kernel
theorem dX5_loseToCutting_15 : decode cX5_loseToCutting 15 = .ok (.iload_n 1, 1) := by decide +kernel
theorem dX5_loseToCutting_16 : decode cX5_loseToCutting 16 = .ok (.iadd, 1) := by decide +kernel
theorem dX5_loseToCutting_17 : decode cX5_loseToCutting 17 = .ok (.putfield 36, 3) := by decide +kernel
theorem dX5_loseToCutting_20 : decode cX5_loseToCutting 20 = .ok (.aload_n 0, 1) := by decide +kernel
theorem dX5_loseToCutting_21 : decode cX5_loseToCutting 21 = .ok (.iload_n 3, 1) := by decide +kernel
theorem dX5_loseToCutting_22 : decode cX5_loseToCutting 22 = .ok (.bipush 100, 2) := by decide +kernel
theorem dX5_loseToCutting_24 : decode cX5_loseToCutting 24 = .ok (.idiv, 1) := by decide +kernel
theorem dX5_loseToCutting_25 : decode cX5_loseToCutting 25 = .ok (.putfield 9, 3) := by decide +kernel
theorem dX5_loseToCutting_28 : decode cX5_loseToCutting 28 = .ok (.aload_n 0, 1) := by decide +kernel
theorem dX5_loseToCutting_29 : decode cX5_loseToCutting 29 = .ok (.iload_n 3, 1) := by decide +kernel
theorem dX5_loseToCutting_30 : decode cX5_loseToCutting 30 = .ok (.putfield 15, 3) := by decide +kernel
theorem dX5_loseToCutting_33 : decode cX5_loseToCutting 33 = .ok (.aload_n 0, 1) := by decide +kernel
theorem dX5_loseToCutting_34 : decode cX5_loseToCutting 34 = .ok (.iload_n 2, 1) := by decide +kernel
theorem dX5_loseToCutting_35 : decode cX5_loseToCutting 35 = .ok (.putfield 18, 3) := by decide +kernel
theorem dX5_loseToCutting_38 : decode cX5_loseToCutting 38 = .ok (.return_, 1) := by decide +kernel
theorem dX6_init_0 : decode cX6_init 0 = .ok (.aload_n 0, 1) := by decide +kernel
theorem dX6_init_1 : decode cX6_init 1 = .ok (.invokespecial 3, 3) := by decide +kernel
theorem dX6_init_4 : decode cX6_init 4 = .ok (.aload_n 0, 1) := by decide +kernel
theorem dX6_init_5 : decode cX6_init 5 = .ok (.iconst 4, 1) := by decide +kernel
theorem dX6_init_6 : decode cX6_init 6 = .ok (.anewarray 9, 3) := by decide +kernel
theorem dX6_init_9 : decode cX6_init 9 = .ok (.putfield 11, 3) := by decide +kernel
theorem dX6_init_12 : decode cX6_init 12 = .ok (.return_, 1) := by decide +kernel
theorem dX6_addRock_0 : decode cX6_addRock 0 = .ok (.aload_n 0, 1) := by decide +kernel
theorem dX6_addRock_1 : decode cX6_addRock 1 = .ok (.getfield 17, 3) := by decide +kernel
theorem dX6_addRock_4 : decode cX6_addRock 4 = .ok (.aload_n 0, 1) := by decide +kernel
theorem dX6_addRock_5 : decode cX6_addRock 5 = .ok (.getfield 11, 3) := by decide +kernel
theorem dX6_addRock_8 : decode cX6_addRock 8 = .ok (.arraylength, 1) := by decide +kernel
theorem dX6_addRock_9 : decode cX6_addRock 9 = .ok (.if_icmp .lt 5, 3) := by decide +kernel
theorem dX6_addRock_12 : decode cX6_addRock 12 = .ok (.iconst (-1), 1) := by decide +kernel
theorem dX6_addRock_13 : decode cX6_addRock 13 = .ok (.ireturn, 1) := by decide +kernel
theorem dX6_addRock_14 : decode cX6_addRock 14 = .ok (.aload_n 0, 1) := by decide +kernel
theorem dX6_addRock_15 : decode cX6_addRock 15 = .ok (.getfield 11, 3) := by decide +kernel
theorem dX6_addRock_18 : decode cX6_addRock 18 = .ok (.aload_n 0, 1) := by decide +kernel
theorem dX6_addRock_19 : decode cX6_addRock 19 = .ok (.getfield 17, 3) := by decide +kernel
theorem dX6_addRock_22 : decode cX6_addRock 22 = .ok (.aload_n 1, 1) := by decide +kernel
theorem dX6_addRock_23 : decode cX6_addRock 23 = .ok (.aastore, 1) := by decide +kernel
theorem dX6_addRock_24 : decode cX6_addRock 24 = .ok (.aload_n 0, 1) := by decide +kernel
theorem dX6_addRock_25 : decode cX6_addRock 25 = .ok (.dup, 1) := by decide +kernel
theorem dX6_addRock_26 : decode cX6_addRock 26 = .ok (.getfield 17, 3) := by decide +kernel
theorem dX6_addRock_29 : decode cX6_addRock 29 = .ok (.iconst 1, 1) := by decide +kernel
theorem dX6_addRock_30 : decode cX6_addRock 30 = .ok (.iadd, 1) := by decide +kernel
theorem dX6_addRock_31 : decode cX6_addRock 31 = .ok (.putfield 17, 3) := by decide +kernel
theorem dX6_addRock_34 : decode cX6_addRock 34 = .ok (.aload_n 0, 1) := by decide +kernel
theorem dX6_addRock_35 : decode cX6_addRock 35 = .ok (.getfield 17, 3) := by decide +kernel
theorem dX6_addRock_38 : decode cX6_addRock 38 = .ok (.iconst 1, 1) := by decide +kernel
theorem dX6_addRock_39 : decode cX6_addRock 39 = .ok (.isub, 1) := by decide +kernel
theorem dX6_addRock_40 : decode cX6_addRock 40 = .ok (.ireturn, 1) := by decide +kernel
set_option maxRecDepth 20000 in
theorem ggX6_passDay_X5_growAgain : GoodIn wsX6_passDay wsX5_growAgain := goodIn_r _ [7, 8, 9, 10, 20, 21, 22, 23, 24, 25, 26, 27, 28] (by decide +kernel) (by decide +kernel)
set_option maxRecDepth 20000 in
theorem gX6_passDay_X5_growAgain : GoodIn wsX6_passDay (wsV RX6 21 RX5 yX5_growAgain wsX5_growAgain) := goodIn_app (goodIn_of _ (by decide +kernel)) ggX6_passDay_X5_growAgain
set_option maxRecDepth 20000 in
theorem ggX6_passDay_X5_loseToStorm : GoodIn wsX6_passDay wsX5_loseToStorm := goodIn_r _ [14, 15, 9, 16, 20, 21, 22, 23, 24, 25, 26, 27, 28] (by decide +kernel) (by decide +kernel)
set_option maxRecDepth 20000 in
theorem gX6_passDay_X5_loseToStorm : GoodIn wsX6_passDay (wsV RX6 27 RX5 yX5_loseToStorm wsX5_loseToStorm) := goodIn_app (goodIn_of _ (by decide +kernel)) ggX6_passDay_X5_loseToStorm
theorem dX6_passDay_0 : decode cX6_passDay 0 = .ok (.aload_n 0, 1) := by decide +kernel
theorem dX6_passDay_1 : decode cX6_passDay 1 = .ok (.getfield 11, 3) := by decide +kernel
theorem dX6_passDay_4 : decode cX6_passDay 4 = .ok (.astore_n 3, 1) := by decide +kernel
theorem dX6_passDay_5 : decode cX6_passDay 5 = .ok (.aload_n 3, 1) := by decide +kernel
theorem dX6_passDay_6 : decode cX6_passDay 6 = .ok (.arraylength, 1) := by decide +kernel
theorem dX6_passDay_7 : decode cX6_passDay 7 = .ok (.istore 4, 2) := by decide +kernel
theorem dX6_passDay_9 : decode cX6_passDay 9 = .ok (.iconst 0, 1) := by decide +kernel
theorem dX6_passDay_10 : decode cX6_passDay 10 = .ok (.istore 5, 2) := by decide +kernel
theorem dX6_passDay_12 : decode cX6_passDay 12 = .ok (.iload 5, 2) := by decide +kernel
theorem dX6_passDay_14 : decode cX6_passDay 14 = .ok (.iload 4, 2) := by decide +kernel
theorem dX6_passDay_16 : decode cX6_passDay 16 = .ok (.if_icmp .ge 47, 3) := by decide +kernel
theorem dX6_passDay_19 : decode cX6_passDay 19 = .ok (.aload_n 3, 1) := by decide +kernel
theorem dX6_passDay_20 : decode cX6_passDay 20 = .ok (.iload 5, 2) := by decide +kernel
theorem dX6_passDay_22 : decode cX6_passDay 22 = .ok (.aaload, 1) := by decide +kernel
theorem dX6_passDay_23 : decode cX6_passDay 23 = .ok (.astore 6, 2) := by decide +kernel
theorem dX6_passDay_25 : decode cX6_passDay 25 = .ok (.aload 6, 2) := by decide +kernel
theorem dX6_passDay_27 : decode cX6_passDay 27 = .ok (.ifnonnull 6, 3) := by decide +kernel
theorem dX6_passDay_30 : decode cX6_passDay 30 = .ok (.goto 27, 3) := by decide +kernel
theorem dX6_passDay_33 : decode cX6_passDay 33 = .ok (.iload_n 1, 1) := by decide +kernel
theorem dX6_passDay_34 : decode cX6_passDay 34 = .ok (.ifCond .eq 8, 3) := by decide +kernel
theorem dX6_passDay_37 : decode cX6_passDay 37 = .ok (.aload 6, 2) := by decide +kernel
theorem dX6_passDay_39 : decode cX6_passDay 39 = .ok (.invokevirtual 21, 3) := by decide +kernel
theorem dX6_passDay_42 : decode cX6_passDay 42 = .ok (.aload_n 0, 1) := by decide +kernel
theorem dX6_passDay_43 : decode cX6_passDay 43 = .ok (.dup, 1) := by decide +kernel
theorem dX6_passDay_44 : decode cX6_passDay 44 = .ok (.getfield 24, 3) := by decide +kernel
theorem dX6_passDay_47 : decode cX6_passDay 47 = .ok (.aload 6, 2) := by decide +kernel
theorem dX6_passDay_49 : decode cX6_passDay 49 = .ok (.iload_n 2, 1) := by decide +kernel
theorem dX6_passDay_50 : decode cX6_passDay 50 = .ok (.invokevirtual 27, 3) := by decide +kernel
theorem dX6_passDay_53 : decode cX6_passDay 53 = .ok (.iadd, 1) := by decide +kernel
theorem dX6_passDay_54 : decode cX6_passDay 54 = .ok (.putfield 24, 3) := by decide +kernel
theorem dX6_passDay_57 : decode cX6_passDay 57 = .ok (.iinc 5 1, 3) := by decide +kernel
theorem dX6_passDay_60 : decode cX6_passDay 60 = .ok (.goto (-48), 3) := by decide +kernel
theorem dX6_passDay_63 : decode cX6_passDay 63 = .ok (.return_, 1) := by decide +kernel
theorem dX7_init_0 : decode cX7_init 0 = .ok (.aload_n 0, 1) := by decide +kernel
theorem dX7_init_1 : decode cX7_init 1 = .ok (.invokespecial 3, 3) := by decide +kernel
theorem dX7_init_4 : decode cX7_init 4 = .ok (.aload_n 0, 1) := by decide +kernel
theorem dX7_init_5 : decode cX7_init 5 = .ok (.sipush 200, 3) := by decide +kernel
theorem dX7_init_8 : decode cX7_init 8 = .ok (.newarray .int, 2) := by decide +kernel
theorem dX7_init_10 : decode cX7_init 10 = .ok (.putfield 9, 3) := by decide +kernel
theorem dX7_init_13 : decode cX7_init 13 = .ok (.aload_n 0, 1) := by decide +kernel
theorem dX7_init_14 : decode cX7_init 14 = .ok (.sipush 200, 3) := by decide +kernel
theorem dX7_init_17 : decode cX7_init 17 = .ok (.newarray .int, 2) := by decide +kernel
theorem dX7_init_19 : decode cX7_init 19 = .ok (.putfield 15, 3) := by decide +kernel
theorem dX7_init_22 : decode cX7_init 22 = .ok (.aload_n 0, 1) := by decide +kernel
theorem dX7_init_23 : decode cX7_init 23 = .ok (.sipush 200, 3) := by decide +kernel
theorem dX7_init_26 : decode cX7_init 26 = .ok (.newarray .int, 2) := by decide +kernel
theorem dX7_init_28 : decode cX7_init 28 = .ok (.putfield 18, 3) := by decide +kernel
theorem dX7_init_31 : decode cX7_init 31 = .ok (.aload_n 0, 1) := by decide +kernel
theorem dX7_init_32 : decode cX7_init 32 = .ok (.sipush 200, 3) := by decide +kernel
theorem dX7_init_35 : decode cX7_init 35 = .ok (.newarray .int, 2) := by decide +kernel
theorem dX7_init_37 : decode cX7_init 37 = .ok (.putfield 21, 3) := by decide +kernel
theorem dX7_init_40 : decode cX7_init 40 = .ok (.aload_n 0, 1) := by decide +kernel
theorem dX7_init_41 : decode cX7_init 41 = .ok (.sipush 200, 3) := by decide +kernel
theorem dX7_init_44 : decode cX7_init 44 = .ok (.newarray .int, 2) := by decide +kernel
theorem dX7_init_46 : decode cX7_init 46 = .ok (.putfield 24, 3) := by decide +kernel
theorem dX7_init_49 : decode cX7_init 49 = .ok (.return_, 1) := by decide +kernel
theorem dX7_isFull_0 : decode cX7_isFull 0 = .ok (.aload_n 0, 1) := by decide +kernel
theorem dX7_isFull_1 : decode cX7_isFull 1 = .ok (.getfield 27, 3) := by decide +kernel
theorem dX7_isFull_4 : decode cX7_isFull 4 = .ok (.sipush 200, 3) := by decide +kernel
theorem dX7_isFull_7 : decode cX7_isFull 7 = .ok (.if_icmp .lt 7, 3) := by decide +kernel
theorem dX7_isFull_10 : decode cX7_isFull 10 = .ok (.iconst 1, 1) := by decide +kernel
theorem dX7_isFull_11 : decode cX7_isFull 11 = .ok (.goto 4, 3) := by decide +kernel
theorem dX7_isFull_14 : decode cX7_isFull 14 = .ok (.iconst 0, 1) := by decide +kernel
theorem dX7_isFull_15 : decode cX7_isFull 15 = .ok (.ireturn, 1) := by decide +kernel
theorem dX7_hasEntry_0 : decode cX7_hasEntry 0 = .ok (.iload_n 1, 1) := by decide +kernel
theorem dX7_hasEntry_1 : decode cX7_hasEntry 1 = .ok (.ifCond .lt 22, 3) := by decide +kernel
theorem dX7_hasEntry_4 : decode cX7_hasEntry 4 = .ok (.iload_n 1, 1) := by decide +kernel
theorem dX7_hasEntry_5 : decode cX7_hasEntry 5 = .ok (.aload_n 0, 1) := by decide +kernel
theorem dX7_hasEntry_6 : decode cX7_hasEntry 6 = .ok (.getfield 27, 3) := by decide +kernel
theorem dX7_hasEntry_9 : decode cX7_hasEntry 9 = .ok (.if_icmp .ge 14, 3) := by decide +kernel
theorem dX7_hasEntry_12 : decode cX7_hasEntry 12 = .ok (.iload_n 1, 1) := by decide +kernel
theorem dX7_hasEntry_13 : decode cX7_hasEntry 13 = .ok (.sipush 200, 3) := by decide +kernel
theorem dX7_hasEntry_16 : decode cX7_hasEntry 16 = .ok (.if_icmp .ge 7, 3) := by decide +kernel
theorem dX7_hasEntry_19 : decode cX7_hasEntry 19 = .ok (.iconst 1, 1) := by decide +kernel
theorem dX7_hasEntry_20 : decode cX7_hasEntry 20 = .ok (.goto 4, 3) := by decide +kernel
theorem dX7_hasEntry_23 : decode cX7_hasEntry 23 = .ok (.iconst 0, 1) := by decide +kernel
theorem dX7_hasEntry_24 : decode cX7_hasEntry 24 = .ok (.ireturn, 1) := by decide +kernel
set_option maxRecDepth 20000 in
theorem ggX7_addEntry_X7_isFull : GoodIn wsX7_addEntry wsX7_isFull := goodIn_r _ [11, 2, 12, 13, 14, 15, 16, 17] (by decide +kernel) (by decide +kernel)
set_option maxRecDepth 20000 in
theorem gX7_addEntry_X7_isFull : GoodIn wsX7_addEntry (wsV RX7 31 RX7 yX7_isFull wsX7_isFull) := goodIn_app (goodIn_of _ (by decide +kernel)) ggX7_addEntry_X7_isFull
theorem dX7_addEntry_0 : decode cX7_addEntry 0 = .ok (.aload_n 0, 1) := by decide +kernel
theorem dX7_addEntry_1 : decode cX7_addEntry 1 = .ok (.invokevirtual 31, 3) := by decide +kernel
theorem dX7_addEntry_4 : decode cX7_addEntry 4 = .ok (.ifCond .eq 5, 3) := by decide +kernel
theorem dX7_addEntry_7 : decode cX7_addEntry 7 = .ok (.iconst (-1), 1) := by decide +kernel
theorem dX7_addEntry_8 : decode cX7_addEntry 8 = .ok (.ireturn, 1) := by decide +kernel
theorem dX7_addEntry_9 : decode cX7_addEntry 9 = .ok (.aload_n 0, 1) := by decide +kernel
theorem dX7_addEntry_10 : decode cX7_addEntry 10 = .ok (.getfield 9, 3) := by decide +kernel
theorem dX7_addEntry_13 : decode cX7_addEntry 13 = .ok (.aload_n 0, 1) := by decide +kernel
theorem dX7_addEntry_14 : decode cX7_addEntry 14 = .ok (.getfield 27, 3) := by decide +kernel
theorem dX7_addEntry_17 : decode cX7_addEntry 17 = .ok (.iload_n 1, 1) := by decide +kernel
theorem dX7_addEntry_18 : decode cX7_addEntry 18 = .ok (.iastore, 1) := by decide +kernel
theorem dX7_addEntry_19 : decode cX7_addEntry 19 = .ok (.aload_n 0, 1) := by decide +kernel
theorem dX7_addEntry_20 : decode cX7_addEntry 20 = .ok (.getfield 15, 3) := by decide +kernel
theorem dX7_addEntry_23 : decode cX7_addEntry 23 = .ok (.aload_n 0, 1) := by decide +kernel
theorem dX7_addEntry_24 : decode cX7_addEntry 24 = .ok (.getfield 27, 3) := by decide +kernel
theorem dX7_addEntry_27 : decode cX7_addEntry 27 = .ok (.iload_n 2, 1) := by decide +kernel
theorem dX7_addEntry_28 : decode cX7_addEntry 28 = .ok (.iastore, 1) := by decide +kernel
theorem dX7_addEntry_29 : decode cX7_addEntry 29 = .ok (.aload_n 0, 1) := by decide +kernel
theorem dX7_addEntry_30 : decode cX7_addEntry 30 = .ok (.getfield 18, 3) := by decide +kernel
theorem dX7_addEntry_33 : decode cX7_addEntry 33 = .ok (.aload_n 0, 1) := by decide +kernel
theorem dX7_addEntry_34 : decode cX7_addEntry 34 = .ok (.getfield 27, 3) := by decide +kernel
theorem dX7_addEntry_37 : decode cX7_addEntry 37 = .ok (.iload_n 3, 1) := by decide +kernel
theorem dX7_addEntry_38 : decode cX7_addEntry 38 = .ok (.iastore, 1) := by decide +kernel
theorem dX7_addEntry_39 : decode cX7_addEntry 39 = .ok (.aload_n 0, 1) := by decide +kernel
theorem dX7_addEntry_40 : decode cX7_addEntry 40 = .ok (.getfield 21, 3) := by decide +kernel
theorem dX7_addEntry_43 : decode cX7_addEntry 43 = .ok (.aload_n 0, 1) := by decide +kernel
theorem dX7_addEntry_44 : decode cX7_addEntry 44 = .ok (.getfield 27, 3) := by decide +kernel
theorem dX7_addEntry_47 : decode cX7_addEntry 47 = .ok (.iload 4, 2) := by decide +kernel
theorem dX7_addEntry_49 : decode cX7_addEntry 49 = .ok (.iastore, 1) := by decide +kernel
theorem dX7_addEntry_50 : decode cX7_addEntry 50 = .ok (.aload_n 0, 1) := by decide +kernel
theorem dX7_addEntry_51 : decode cX7_addEntry 51 = .ok (.getfield 24, 3) := by decide +kernel
theorem dX7_addEntry_54 : decode cX7_addEntry 54 = .ok (.aload_n 0, 1) := by decide +kernel
theorem dX7_addEntry_55 : decode cX7_addEntry 55 = .ok (.getfield 27, 3) := by decide +kernel
theorem dX7_addEntry_58 : decode cX7_addEntry 58 = .ok (.iconst (-1), 1) := by decide +kernel
theorem dX7_addEntry_59 : decode cX7_addEntry 59 = .ok (.iastore, 1) := by decide +kernel
theorem dX7_addEntry_60 : decode cX7_addEntry 60 = .ok (.aload_n 0, 1) := by decide +kernel
theorem dX7_addEntry_61 : decode cX7_addEntry 61 = .ok (.dup, 1) := by decide +kernel
theorem dX7_addEntry_62 : decode cX7_addEntry 62 = .ok (.getfield 27, 3) := by decide +kernel
theorem dX7_addEntry_65 : decode cX7_addEntry 65 = .ok (.iconst 1, 1) := by decide +kernel
theorem dX7_addEntry_66 : decode cX7_addEntry 66 = .ok (.iadd, 1) := by decide +kernel
theorem dX7_addEntry_67 : decode cX7_addEntry 67 = .ok (.putfield 27, 3) := by decide +kernel
theorem dX7_addEntry_70 : decode cX7_addEntry 70 = .ok (.aload_n 0, 1) := by decide +kernel
theorem dX7_addEntry_71 : decode cX7_addEntry 71 = .ok (.getfield 27, 3) := by decide +kernel
theorem dX7_addEntry_74 : decode cX7_addEntry 74 = .ok (.iconst 1, 1) := by decide +kernel
theorem dX7_addEntry_75 : decode cX7_addEntry 75 = .ok (.isub, 1) := by decide +kernel
theorem dX7_addEntry_76 : decode cX7_addEntry 76 = .ok (.ireturn, 1) := by decide +kernel
set_option maxRecDepth 20000 in
theorem ggX7_takeBack_X7_hasEntry : GoodIn wsX7_takeBack wsX7_hasEntry := goodIn_r _ [6, 7, 8, 9, 10, 11, 12, 13] (by decide +kernel) (by decide +kernel)
set_option maxRecDepth 20000 in
theorem gX7_takeBack_X7_hasEntry : GoodIn wsX7_takeBack (wsV RX7 35 RX7 yX7_hasEntry wsX7_hasEntry) := goodIn_app (goodIn_of _ (by decide +kernel)) ggX7_takeBack_X7_hasEntry
theorem dX7_takeBack_0 : decode cX7_takeBack 0 = .ok (.aload_n 0, 1) := by decide +kernel
theorem dX7_takeBack_1 : decode cX7_takeBack 1 = .ok (.iload_n 1, 1) := by decide +kernel
theorem dX7_takeBack_2 : decode cX7_takeBack 2 = .ok (.invokevirtual 35, 3) := by decide +kernel
theorem dX7_takeBack_5 : decode cX7_takeBack 5 = .ok (.ifCond .eq 13, 3) := by decide +kernel
theorem dX7_takeBack_8 : decode cX7_takeBack 8 = .ok (.aload_n 0, 1) := by decide +kernel
theorem dX7_takeBack_9 : decode cX7_takeBack 9 = .ok (.getfield 24, 3) := by decide +kernel
theorem dX7_takeBack_12 : decode cX7_takeBack 12 = .ok (.iload_n 1, 1) := by decide +kernel
theorem dX7_takeBack_13 : decode cX7_takeBack 13 = .ok (.iaload, 1) := by decide +kernel
theorem dX7_takeBack_14 : decode cX7_takeBack 14 = .ok (.iconst (-1), 1) := by decide +kernel
theorem dX7_takeBack_15 : decode cX7_takeBack 15 = .ok (.if_icmp .eq 5, 3) := by decide +kernel
theorem dX7_takeBack_18 : decode cX7_takeBack 18 = .ok (.iconst 0, 1) := by decide +kernel
theorem dX7_takeBack_19 : decode cX7_takeBack 19 = .ok (.ireturn, 1) := by decide +kernel
theorem dX7_takeBack_20 : decode cX7_takeBack 20 = .ok (.aload_n 0, 1) := by decide +kernel
theorem dX7_takeBack_21 : decode cX7_takeBack 21 = .ok (.getfield 24, 3) := by decide +kernel
theorem dX7_takeBack_24 : decode cX7_takeBack 24 = .ok (.iload_n 1, 1) := by decide +kernel
theorem dX7_takeBack_25 : decode cX7_takeBack 25 = .ok (.iload_n 2, 1) := by decide +kernel
theorem dX7_takeBack_26 : decode cX7_takeBack 26 = .ok (.iastore, 1) := by decide +kernel
theorem dX7_takeBack_27 : decode cX7_takeBack 27 = .ok (.iconst 1, 1) := by decide +kernel
theorem dX7_takeBack_28 : decode cX7_takeBack 28 = .ok (.ireturn, 1) := by decide +kernel
set_option maxRecDepth 20000 in
theorem ggX7_sumKnown_X7_wasKnown : GoodIn wsX7_sumKnown wsX7_wasKnown := goodIn_r _ [9, 10, 11, 12, 13, 14, 8, 15, 1, 16, 17, 18, 19, 20, 21] (by decide +kernel) (by decide +kernel)
set_option maxRecDepth 20000 in
theorem gX7_sumKnown_X7_wasKnown : GoodIn wsX7_sumKnown (wsV RX7 39 RX7 yX7_wasKnown wsX7_wasKnown) := goodIn_app (goodIn_of _ (by decide +kernel)) ggX7_sumKnown_X7_wasKnown
theorem dX7_sumKnown_0 : decode cX7_sumKnown 0 = .ok (.iconst 0, 1) := by decide +kernel
theorem dX7_sumKnown_1 : decode cX7_sumKnown 1 = .ok (.istore 4, 2) := by decide +kernel
theorem dX7_sumKnown_3 : decode cX7_sumKnown 3 = .ok (.iconst 0, 1) := by decide +kernel
theorem dX7_sumKnown_4 : decode cX7_sumKnown 4 = .ok (.istore 5, 2) := by decide +kernel
theorem dX7_sumKnown_6 : decode cX7_sumKnown 6 = .ok (.iload 5, 2) := by decide +kernel
theorem dX7_sumKnown_8 : decode cX7_sumKnown 8 = .ok (.aload_n 0, 1) := by decide +kernel
theorem dX7_sumKnown_9 : decode cX7_sumKnown 9 = .ok (.getfield 27, 3) := by decide +kernel
theorem dX7_sumKnown_12 : decode cX7_sumKnown 12 = .ok (.if_icmp .ge 61, 3) := by decide +kernel
theorem dX7_sumKnown_15 : decode cX7_sumKnown 15 = .ok (.iload 5, 2) := by decide +kernel
theorem dX7_sumKnown_17 : decode cX7_sumKnown 17 = .ok (.sipush 200, 3) := by decide +kernel
theorem dX7_sumKnown_20 : decode cX7_sumKnown 20 = .ok (.if_icmp .ge 53, 3) := by decide +kernel
theorem dX7_sumKnown_23 : decode cX7_sumKnown 23 = .ok (.aload_n 0, 1) := by decide +kernel
theorem dX7_sumKnown_24 : decode cX7_sumKnown 24 = .ok (.getfield 9, 3) := by decide +kernel
theorem dX7_sumKnown_27 : decode cX7_sumKnown 27 = .ok (.iload 5, 2) := by decide +kernel
theorem dX7_sumKnown_29 : decode cX7_sumKnown 29 = .ok (.iaload, 1) := by decide +kernel
theorem dX7_sumKnown_30 : decode cX7_sumKnown 30 = .ok (.iload_n 1, 1) := by decide +kernel
theorem dX7_sumKnown_31 : decode cX7_sumKnown 31 = .ok (.if_icmp .ne 36, 3) := by decide +kernel
theorem dX7_sumKnown_34 : decode cX7_sumKnown 34 = .ok (.aload_n 0, 1) := by decide +kernel
theorem dX7_sumKnown_35 : decode cX7_sumKnown 35 = .ok (.getfield 18, 3) := by decide +kernel
theorem dX7_sumKnown_38 : decode cX7_sumKnown 38 = .ok (.iload 5, 2) := by decide +kernel
theorem dX7_sumKnown_40 : decode cX7_sumKnown 40 = .ok (.iaload, 1) := by decide +kernel
theorem dX7_sumKnown_41 : decode cX7_sumKnown 41 = .ok (.iload_n 2, 1) := by decide +kernel
theorem dX7_sumKnown_42 : decode cX7_sumKnown 42 = .ok (.if_icmp .gt 25, 3) := by decide +kernel
theorem dX7_sumKnown_45 : decode cX7_sumKnown 45 = .ok (.aload_n 0, 1) := by decide +kernel
theorem dX7_sumKnown_46 : decode cX7_sumKnown 46 = .ok (.iload 5, 2) := by decide +kernel
theorem dX7_sumKnown_48 : decode cX7_sumKnown 48 = .ok (.iload_n 3, 1) := by decide +kernel
theorem dX7_sumKnown_49 : decode cX7_sumKnown 49 = .ok (.invokevirtual 39, 3) := by decide +kernel
theorem dX7_sumKnown_52 : decode cX7_sumKnown 52 = .ok (.ifCond .eq 15, 3) := by decide +kernel
theorem dX7_sumKnown_55 : decode cX7_sumKnown 55 = .ok (.iload 4, 2) := by decide +kernel
theorem dX7_sumKnown_57 : decode cX7_sumKnown 57 = .ok (.aload_n 0, 1) := by decide +kernel
theorem dX7_sumKnown_58 : decode cX7_sumKnown 58 = .ok (.getfield 15, 3) := by decide +kernel
theorem dX7_sumKnown_61 : decode cX7_sumKnown 61 = .ok (.iload 5, 2) := by decide +kernel
theorem dX7_sumKnown_63 : decode cX7_sumKnown 63 = .ok (.iaload, 1) := by decide +kernel
theorem dX7_sumKnown_64 : decode cX7_sumKnown 64 = .ok (.iadd, 1) := by decide +kernel
theorem dX7_sumKnown_65 : decode cX7_sumKnown 65 = .ok (.istore 4, 2) := by decide +kernel
theorem dX7_sumKnown_67 : decode cX7_sumKnown 67 = .ok (.iinc 5 1, 3) := by decide +kernel
theorem dX7_sumKnown_70 : decode cX7_sumKnown 70 = .ok (.goto (-64), 3) := by decide +kernel
theorem dX7_sumKnown_73 : decode cX7_sumKnown 73 = .ok (.iload 4, 2) := by decide +kernel
theorem dX7_sumKnown_75 : decode cX7_sumKnown 75 = .ok (.ireturn, 1) := by decide +kernel
set_option maxRecDepth 20000 in
theorem ggX7_wasKnown_X7_hasEntry : GoodIn wsX7_wasKnown wsX7_hasEntry := goodIn_r _ [7, 8, 9, 10, 11, 12, 13, 14] (by decide +kernel) (by decide +kernel)
set_option maxRecDepth 20000 in
theorem gX7_wasKnown_X7_hasEntry : GoodIn wsX7_wasKnown (wsV RX7 35 RX7 yX7_hasEntry wsX7_hasEntry) := goodIn_app (goodIn_of _ (by decide +kernel)) ggX7_wasKnown_X7_hasEntry
theorem dX7_wasKnown_0 : decode cX7_wasKnown 0 = .ok (.aload_n 0, 1) := by decide +kernel
theorem dX7_wasKnown_1 : decode cX7_wasKnown 1 = .ok (.iload_n 1, 1) := by decide +kernel
theorem dX7_wasKnown_2 : decode cX7_wasKnown 2 = .ok (.invokevirtual 35, 3) := by decide +kernel
theorem dX7_wasKnown_5 : decode cX7_wasKnown 5 = .ok (.ifCond .eq 37, 3) := by decide +kernel
theorem dX7_wasKnown_8 : decode cX7_wasKnown 8 = .ok (.aload_n 0, 1) := by decide +kernel
theorem dX7_wasKnown_9 : decode cX7_wasKnown 9 = .ok (.getfield 21, 3) := by decide +kernel
theorem dX7_wasKnown_12 : decode cX7_wasKnown 12 = .ok (.iload_n 1, 1) := by decide +kernel
theorem dX7_wasKnown_13 : decode cX7_wasKnown 13 = .ok (.iaload, 1) := by decide +kernel
theorem dX7_wasKnown_14 : decode cX7_wasKnown 14 = .ok (.iload_n 2, 1) := by decide +kernel
theorem dX7_wasKnown_15 : decode cX7_wasKnown 15 = .ok (.if_icmp .gt 27, 3) := by decide +kernel
theorem dX7_wasKnown_18 : decode cX7_wasKnown 18 = .ok (.aload_n 0, 1) := by decide +kernel
theorem dX7_wasKnown_19 : decode cX7_wasKnown 19 = .ok (.getfield 24, 3) := by decide +kernel
theorem dX7_wasKnown_22 : decode cX7_wasKnown 22 = .ok (.iload_n 1, 1) := by decide +kernel
theorem dX7_wasKnown_23 : decode cX7_wasKnown 23 = .ok (.iaload, 1) := by decide +kernel
theorem dX7_wasKnown_24 : decode cX7_wasKnown 24 = .ok (.iconst (-1), 1) := by decide +kernel
theorem dX7_wasKnown_25 : decode cX7_wasKnown 25 = .ok (.if_icmp .eq 13, 3) := by decide +kernel
theorem dX7_wasKnown_28 : decode cX7_wasKnown 28 = .ok (.iload_n 2, 1) := by decide +kernel
theorem dX7_wasKnown_29 : decode cX7_wasKnown 29 = .ok (.aload_n 0, 1) := by decide +kernel
theorem dX7_wasKnown_30 : decode cX7_wasKnown 30 = .ok (.getfield 24, 3) := by decide +kernel
theorem dX7_wasKnown_33 : decode cX7_wasKnown 33 = .ok (.iload_n 1, 1) := by decide +kernel
theorem dX7_wasKnown_34 : decode cX7_wasKnown 34 = .ok (.iaload, 1) := by decide +kernel
theorem dX7_wasKnown_35 : decode cX7_wasKnown 35 = .ok (.if_icmp .ge 7, 3) := by decide +kernel
theorem dX7_wasKnown_38 : decode cX7_wasKnown 38 = .ok (.iconst 1, 1) := by decide +kernel
theorem dX7_wasKnown_39 : decode cX7_wasKnown 39 = .ok (.goto 4, 3) := by decide +kernel
theorem dX7_wasKnown_42 : decode cX7_wasKnown 42 = .ok (.iconst 0, 1) := by decide +kernel
theorem dX7_wasKnown_43 : decode cX7_wasKnown 43 = .ok (.ireturn, 1) := by decide +kernel
theorem dX8_init_0 : decode cX8_init 0 = .ok (.aload_n 0, 1) := by decide +kernel
theorem dX8_init_1 : decode cX8_init 1 = .ok (.invokespecial 3, 3) := by decide +kernel
theorem dX8_init_4 : decode cX8_init 4 = .ok (.aload_n 0, 1) := by decide +kernel
theorem dX8_init_5 : decode cX8_init 5 = .ok (.sipush 400, 3) := by decide +kernel
theorem dX8_init_8 : decode cX8_init 8 = .ok (.newarray .int, 2) := by decide +kernel
theorem dX8_init_10 : decode cX8_init 10 = .ok (.putfield 9, 3) := by decide +kernel
theorem dX8_init_13 : decode cX8_init 13 = .ok (.return_, 1) := by decide +kernel
theorem dX8_putNumber_0 : decode cX8_putNumber 0 = .ok (.bipush 24, 2) := by decide +kernel
theorem dX8_putNumber_2 : decode cX8_putNumber 2 = .ok (.istore_n 2, 1) := by decide +kernel
theorem dX8_putNumber_3 : decode cX8_putNumber 3 = .ok (.iload_n 2, 1) := by decide +kernel
theorem dX8_putNumber_4 : decode cX8_putNumber 4 = .ok (.ifCond .lt 47, 3) := by decide +kernel
theorem dX8_putNumber_7 : decode cX8_putNumber 7 = .ok (.aload_n 0, 1) := by decide +kernel
theorem dX8_putNumber_8 : decode cX8_putNumber 8 = .ok (.getfield 15, 3) := by decide +kernel
theorem dX8_putNumber_11 : decode cX8_putNumber 11 = .ok (.aload_n 0, 1) := by decide +kernel
theorem dX8_putNumber_12 : decode cX8_putNumber 12 = .ok (.getfield 9, 3) := by decide +kernel
theorem dX8_putNumber_15 : decode cX8_putNumber 15 = .ok (.arraylength, 1) := by decide +kernel
theorem dX8_putNumber_16 : decode cX8_putNumber 16 = .ok (.if_icmp .ge 35, 3) := by decide +kernel
theorem dX8_putNumber_19 : decode cX8_putNumber 19 = .ok (.aload_n 0, 1) := by decide +kernel
theorem dX8_putNumber_20 : decode cX8_putNumber 20 = .ok (.getfield 9, 3) := by decide +kernel
theorem dX8_putNumber_23 : decode cX8_putNumber 23 = .ok (.aload_n 0, 1) := by decide +kernel
theorem dX8_putNumber_24 : decode cX8_putNumber 24 = .ok (.getfield 15, 3) := by decide +kernel
theorem dX8_putNumber_27 : decode cX8_putNumber 27 = .ok (.iload_n 1, 1) := by decide +kernel
theorem dX8_putNumber_28 : decode cX8_putNumber 28 = .ok (.iload_n 2, 1) := by decide +kernel
theorem dX8_putNumber_29 : decode cX8_putNumber 29 = .ok (.iushr, 1) := by decide +kernel
theorem dX8_putNumber_30 : decode cX8_putNumber 30 = .ok (.sipush 255, 3) := by decide +kernel
theorem dX8_putNumber_33 : decode cX8_putNumber 33 = .ok (.iand, 1) := by decide +kernel
theorem dX8_putNumber_34 : decode cX8_putNumber 34 = .ok (.iastore, 1) := by decide +kernel
theorem dX8_putNumber_35 : decode cX8_putNumber 35 = .ok (.aload_n 0, 1) := by decide +kernel
theorem dX8_putNumber_36 : decode cX8_putNumber 36 = .ok (.dup, 1) := by decide +kernel
theorem dX8_putNumber_37 : decode cX8_putNumber 37 = .ok (.getfield 15, 3) := by decide +kernel
theorem dX8_putNumber_40 : decode cX8_putNumber 40 = .ok (.iconst 1, 1) := by decide +kernel
theorem dX8_putNumber_41 : decode cX8_putNumber 41 = .ok (.iadd, 1) := by decide +kernel
theorem dX8_putNumber_42 : decode cX8_putNumber 42 = .ok (.putfield 15, 3) := by decide +kernel
theorem dX8_putNumber_45 : decode cX8_putNumber 45 = .ok (.iinc 2 (-8), 3) := by decide +kernel
theorem dX8_putNumber_48 : decode cX8_putNumber 48 = .ok (.goto (-45), 3) := by decide +kernel
theorem dX8_putNumber_51 : decode cX8_putNumber 51 = .ok (.return_, 1) := by decide +kernel
set_option maxRecDepth 20000 in
theorem ggX8_partsRead_X4_forgetAll : GoodIn wsX8_partsRead wsX4_forgetAll := goodIn_r _ [7, 8, 9, 104, 105, 106, 107, 108, 109, 110] (by decide +kernel) (by decide +kernel)
set_option maxRecDepth 20000 in
theorem gX8_partsRead_X4_forgetAll : GoodIn wsX8_partsRead (wsV RX8 19 RX4 yX4_forgetAll wsX4_forgetAll) := goodIn_app (goodIn_of _ (by decide +kernel)) ggX8_partsRead_X4_forgetAll
set_option maxRecDepth 20000 in
theorem ggX8_partsRead_X8_readsPart : GoodIn wsX8_partsRead wsX8_readsPart := goodIn_r _ [14, 15, 16, 17, 13, 18, 1, 19, 20, 21, 22, 2, 23, 24, 25, 26, 27, 28, 29, 30, 31, 32, 33, 34, 35, 36, 37, 38, 39, 40, 41, 42, 43, 44, 45, 46, 47, 48, 49, 50, 51, 52, 53, 54, 55, 56, 57, 58, 59, 60, 61, 62, 63, 64, 65, 66, 67, 68, 69, 70, 71, 72, 73, 74, 75, 76, 77, 78, 79, 80, 81, 82, 83, 84, 85, 86, 87, 88, 89, 90, 91, 92, 93, 94, 6, 95, 8, 96, 97, 98, 99, 100, 101, 102, 103, 104, 105, 106, 107, 108, 109, 110] (by decide +kernel) (by decide +kernel)
set_option maxRecDepth 20000 in
theorem gX8_partsRead_X8_readsPart : GoodIn wsX8_partsRead (wsV RX8 27 RX8 yX8_readsPart wsX8_readsPart) := goodIn_app (goodIn_of _ (by decide +kernel)) ggX8_partsRead_X8_readsPart
set_option maxRecDepth 20000 in
theorem ggX8_partsRead_X8_skipBlanks : GoodIn wsX8_partsRead wsX8_skipBlanks := goodIn_r _ [22, 1, 2, 23, 24, 25, 13, 26, 27, 101, 102, 103] (by decide +kernel) (by decide +kernel)
set_option maxRecDepth 20000 in
theorem gX8_partsRead_X8_skipBlanks : GoodIn wsX8_partsRead (wsV RX8 31 RX8 yX8_skipBlanks wsX8_skipBlanks) := goodIn_app (goodIn_of _ (by decide +kernel)) ggX8_partsRead_X8_skipBlanks
set_option maxRecDepth 20000 in
theorem ggX8_partsRead_X8_byteAt : GoodIn wsX8_partsRead wsX8_byteAt := goodIn_r _ [26, 2, 27, 101, 102, 103] (by decide +kernel) (by decide +kernel)
set_option maxRecDepth 20000 in
theorem gX8_partsRead_X8_byteAt : GoodIn wsX8_partsRead (wsV RX8 34 RX8 yX8_byteAt wsX8_byteAt) := goodIn_app (goodIn_of _ (by decide +kernel)) ggX8_partsRead_X8_byteAt
theorem dX8_partsRead_0 : decode cX8_partsRead 0 = .ok (.aload_n 1, 1) := by decide +kernel
theorem dX8_partsRead_1 : decode cX8_partsRead 1 = .ok (.invokevirtual 19, 3) := by decide +kernel
theorem dX8_partsRead_4 : decode cX8_partsRead 4 = .ok (.aload_n 0, 1) := by decide +kernel
theorem dX8_partsRead_5 : decode cX8_partsRead 5 = .ok (.iconst 0, 1) := by decide +kernel
theorem dX8_partsRead_6 : decode cX8_partsRead 6 = .ok (.putfield 24, 3) := by decide +kernel
theorem dX8_partsRead_9 : decode cX8_partsRead 9 = .ok (.iconst 1, 1) := by decide +kernel
theorem dX8_partsRead_10 : decode cX8_partsRead 10 = .ok (.istore_n 3, 1) := by decide +kernel
theorem dX8_partsRead_11 : decode cX8_partsRead 11 = .ok (.iload_n 3, 1) := by decide +kernel
theorem dX8_partsRead_12 : decode cX8_partsRead 12 = .ok (.sipush 400, 3) := by decide +kernel
theorem dX8_partsRead_15 : decode cX8_partsRead 15 = .ok (.if_icmp .gt 62, 3) := by decide +kernel
theorem dX8_partsRead_18 : decode cX8_partsRead 18 = .ok (.aload_n 0, 1) := by decide +kernel
theorem dX8_partsRead_19 : decode cX8_partsRead 19 = .ok (.aload_n 1, 1) := by decide +kernel
theorem dX8_partsRead_20 : decode cX8_partsRead 20 = .ok (.iload_n 2, 1) := by decide +kernel
theorem dX8_partsRead_21 : decode cX8_partsRead 21 = .ok (.invokevirtual 27, 3) := by decide +kernel
theorem dX8_partsRead_24 : decode cX8_partsRead 24 = .ok (.ifCond .ne 5, 3) := by decide +kernel
theorem dX8_partsRead_27 : decode cX8_partsRead 27 = .ok (.iconst (-1), 1) := by decide +kernel
theorem dX8_partsRead_28 : decode cX8_partsRead 28 = .ok (.ireturn, 1) := by decide +kernel
theorem dX8_partsRead_29 : decode cX8_partsRead 29 = .ok (.aload_n 0, 1) := by decide +kernel
theorem dX8_partsRead_30 : decode cX8_partsRead 30 = .ok (.invokevirtual 31, 3) := by decide +kernel
theorem dX8_partsRead_33 : decode cX8_partsRead 33 = .ok (.aload_n 0, 1) := by decide +kernel
theorem dX8_partsRead_34 : decode cX8_partsRead 34 = .ok (.getfield 24, 3) := by decide +kernel
theorem dX8_partsRead_37 : decode cX8_partsRead 37 = .ok (.aload_n 0, 1) := by decide +kernel
theorem dX8_partsRead_38 : decode cX8_partsRead 38 = .ok (.getfield 15, 3) := by decide +kernel
theorem dX8_partsRead_41 : decode cX8_partsRead 41 = .ok (.if_icmp .lt 5, 3) := by decide +kernel
theorem dX8_partsRead_44 : decode cX8_partsRead 44 = .ok (.iload_n 3, 1) := by decide +kernel
theorem dX8_partsRead_45 : decode cX8_partsRead 45 = .ok (.ireturn, 1) := by decide +kernel
theorem dX8_partsRead_46 : decode cX8_partsRead 46 = .ok (.aload_n 0, 1) := by decide +kernel
theorem dX8_partsRead_47 : decode cX8_partsRead 47 = .ok (.aload_n 0, 1) := by decide +kernel
theorem dX8_partsRead_48 : decode cX8_partsRead 48 = .ok (.getfield 24, 3) := by decide +kernel
theorem dX8_partsRead_51 : decode cX8_partsRead 51 = .ok (.invokevirtual 34, 3) := by decide +kernel
theorem dX8_partsRead_54 : decode cX8_partsRead 54 = .ok (.bipush 59, 2) := by decide +kernel
theorem dX8_partsRead_56 : decode cX8_partsRead 56 = .ok (.if_icmp .eq 5, 3) := by decide +kernel
theorem dX8_partsRead_59 : decode cX8_partsRead 59 = .ok (.iconst (-1), 1) := by decide +kernel
theorem dX8_partsRead_60 : decode cX8_partsRead 60 = .ok (.ireturn, 1) := by decide +kernel
theorem dX8_partsRead_61 : decode cX8_partsRead 61 = .ok (.aload_n 0, 1) := by decide +kernel
theorem dX8_partsRead_62 : decode cX8_partsRead 62 = .ok (.dup, 1) := by decide +kernel
theorem dX8_partsRead_63 : decode cX8_partsRead 63 = .ok (.getfield 24, 3) := by decide +kernel
theorem dX8_partsRead_66 : decode cX8_partsRead 66 = .ok (.iconst 1, 1) := by decide +kernel
theorem dX8_partsRead_67 : decode cX8_partsRead 67 = .ok (.iadd, 1) := by decide +kernel
theorem dX8_partsRead_68 : decode cX8_partsRead 68 = .ok (.putfield 24, 3) := by decide +kernel
theorem dX8_partsRead_71 : decode cX8_partsRead 71 = .ok (.iinc 3 1, 3) := by decide +kernel
theorem dX8_partsRead_74 : decode cX8_partsRead 74 = .ok (.goto (-63), 3) := by decide +kernel
theorem dX8_partsRead_77 : decode cX8_partsRead 77 = .ok (.iconst (-1), 1) := by decide +kernel
theorem dX8_partsRead_78 : decode cX8_partsRead 78 = .ok (.ireturn, 1) := by decide +kernel
set_option maxRecDepth 20000 in
theorem ggX8_readsPart_X8_takesWord : GoodIn wsX8_readsPart wsX8_takesWord := goodIn_r _ [5, 6, 7, 8, 9, 4, 10, 11, 12, 13, 14, 15, 16, 17, 18, 19, 20, 21, 22, 23, 24, 25, 26, 27, 28, 29, 30, 31, 32, 33, 34, 35, 36, 37, 38, 39, 40, 41, 42, 43, 44, 45, 46, 47, 48, 49, 50, 51, 52, 53, 54, 55, 56, 57, 58, 59, 60, 61, 62, 63, 64, 65, 66, 67, 68, 92, 93, 94] (by decide +kernel) (by decide +kernel)
set_option maxRecDepth 20000 in
theorem gX8_readsPart_X8_takesWord : GoodIn wsX8_readsPart (wsV RX8 40 RX8 yX8_takesWord wsX8_takesWord) := goodIn_app (goodIn_of _ (by decide +kernel)) ggX8_readsPart_X8_takesWord
set_option maxRecDepth 20000 in
theorem ggX8_readsPart_X8_readsRest : GoodIn wsX8_readsPart wsX8_readsRest := goodIn_r _ [72, 73, 74, 75, 4, 76, 6, 7, 8, 9, 10, 11, 12, 13, 14, 15, 16, 66, 67, 68, 95, 96, 97, 98, 99, 100, 101, 92, 93, 94] (by decide +kernel) (by decide +kernel)
set_option maxRecDepth 20000 in
theorem gX8_readsPart_X8_readsRest : GoodIn wsX8_readsPart (wsV RX8 44 RX8 yX8_readsRest wsX8_readsRest) := goodIn_app (goodIn_of _ (by decide +kernel)) ggX8_readsPart_X8_readsRest
set_option maxRecDepth 20000 in
theorem ggX8_readsPart_X8_readsRight : GoodIn wsX8_readsPart wsX8_readsRight := goodIn_r _ [80, 73, 74, 75, 4, 76, 6, 7, 8, 9, 10, 11, 12, 13, 14, 15, 16, 66, 67, 68, 1, 2, 3, 5, 17, 18, 19, 20, 21, 22, 23, 24, 25, 26, 27, 28, 29, 30, 31, 32, 33, 34, 35, 36, 37, 38, 39, 40, 41, 42, 43, 44, 45, 46, 47, 48, 49, 50, 51, 52, 53, 54, 55, 56, 57, 58, 59, 60, 61, 62, 63, 64, 65, 81, 82, 83, 84, 85, 86, 87, 88, 89, 90, 91, 92, 93, 94, 95, 96, 97, 98, 99, 100, 101] (by decide +kernel) (by decide +kernel)
set_option maxRecDepth 20000 in
theorem gX8_readsPart_X8_readsRight : GoodIn wsX8_readsPart (wsV RX8 50 RX8 yX8_readsRight wsX8_readsRight) := goodIn_app (goodIn_of _ (by decide +kernel)) ggX8_readsPart_X8_readsRight
theorem dX8_readsPart_0 : decode cX8_readsPart 0 = .ok (.aload_n 0, 1) := by decide +kernel
theorem dX8_readsPart_1 : decode cX8_readsPart 1 = .ok (.ldc 38, 2) := by decide +kernel
theorem dX8_readsPart_3 : decode cX8_readsPart 3 = .ok (.invokevirtual 40, 3) := by decide +kernel
theorem dX8_readsPart_6 : decode cX8_readsPart 6 = .ok (.ifCond .eq 9, 3) := by decide +kernel
theorem dX8_readsPart_9 : decode cX8_readsPart 9 = .ok (.aload_n 0, 1) := by decide +kernel
theorem dX8_readsPart_10 : decode cX8_readsPart 10 = .ok (.aload_n 1, 1) := by decide +kernel
theorem dX8_readsPart_11 : decode cX8_readsPart 11 = .ok (.invokevirtual 44, 3) := by decide +kernel
theorem dX8_readsPart_14 : decode cX8_readsPart 14 = .ok (.ireturn, 1) := by decide +kernel
theorem dX8_readsPart_15 : decode cX8_readsPart 15 = .ok (.aload_n 0, 1) := by decide +kernel
theorem dX8_readsPart_16 : decode cX8_readsPart 16 = .ok (.ldc 48, 2) := by decide +kernel
theorem dX8_readsPart_18 : decode cX8_readsPart 18 = .ok (.invokevirtual 40, 3) := by decide +kernel
theorem dX8_readsPart_21 : decode cX8_readsPart 21 = .ok (.ifCond .eq 16, 3) := by decide +kernel
theorem dX8_readsPart_24 : decode cX8_readsPart 24 = .ok (.aload_n 0, 1) := by decide +kernel
theorem dX8_readsPart_25 : decode cX8_readsPart 25 = .ok (.aload_n 1, 1) := by decide +kernel
theorem dX8_readsPart_26 : decode cX8_readsPart 26 = .ok (.iload_n 2, 1) := by decide +kernel
theorem dX8_readsPart_27 : decode cX8_readsPart 27 = .ok (.invokevirtual 50, 3) := by decide +kernel
theorem dX8_readsPart_30 : decode cX8_readsPart 30 = .ok (.ifCond .eq 7, 3) := by decide +kernel
theorem dX8_readsPart_33 : decode cX8_readsPart 33 = .ok (.iconst 1, 1) := by decide +kernel
theorem dX8_readsPart_34 : decode cX8_readsPart 34 = .ok (.goto 4, 3) := by decide +kernel
theorem dX8_readsPart_37 : decode cX8_readsPart 37 = .ok (.iconst 0, 1) := by decide +kernel
theorem dX8_readsPart_38 : decode cX8_readsPart 38 = .ok (.ireturn, 1) := by decide +kernel
set_option maxRecDepth 20000 in
theorem ggX8_readsRest_X8_takenNumber : GoodIn wsX8_readsRest wsX8_takenNumber := goodIn_r _ [5, 6, 7, 8, 9, 4, 10, 11, 12, 13, 14, 15, 16, 17, 18, 19, 27, 28, 29] (by decide +kernel) (by decide +kernel)
set_option maxRecDepth 20000 in
theorem gX8_readsRest_X8_takenNumber : GoodIn wsX8_readsRest (wsV RX8 53 RX8 yX8_takenNumber wsX8_takenNumber) := goodIn_app (goodIn_of _ (by decide +kernel)) ggX8_readsRest_X8_takenNumber
theorem dX8_readsRest_0 : decode cX8_readsRest 0 = .ok (.aload_n 0, 1) := by decide +kernel
theorem dX8_readsRest_1 : decode cX8_readsRest 1 = .ok (.iconst 0, 1) := by decide +kernel
theorem dX8_readsRest_2 : decode cX8_readsRest 2 = .ok (.bipush 20, 2) := by decide +kernel
theorem dX8_readsRest_4 : decode cX8_readsRest 4 = .ok (.invokevirtual 53, 3) := by decide +kernel
theorem dX8_readsRest_7 : decode cX8_readsRest 7 = .ok (.istore_n 2, 1) := by decide +kernel
theorem dX8_readsRest_8 : decode cX8_readsRest 8 = .ok (.iload_n 2, 1) := by decide +kernel
theorem dX8_readsRest_9 : decode cX8_readsRest 9 = .ok (.iconst (-1), 1) := by decide +kernel
theorem dX8_readsRest_10 : decode cX8_readsRest 10 = .ok (.if_icmp .ne 5, 3) := by decide +kernel
theorem dX8_readsRest_13 : decode cX8_readsRest 13 = .ok (.iconst 0, 1) := by decide +kernel
theorem dX8_readsRest_14 : decode cX8_readsRest 14 = .ok (.ireturn, 1) := by decide +kernel
theorem dX8_readsRest_15 : decode cX8_readsRest 15 = .ok (.aload_n 1, 1) := by decide +kernel
theorem dX8_readsRest_16 : decode cX8_readsRest 16 = .ok (.iload_n 2, 1) := by decide +kernel
theorem dX8_readsRest_17 : decode cX8_readsRest 17 = .ok (.putfield 57, 3) := by decide +kernel
theorem dX8_readsRest_20 : decode cX8_readsRest 20 = .ok (.iconst 1, 1) := by decide +kernel
theorem dX8_readsRest_21 : decode cX8_readsRest 21 = .ok (.ireturn, 1) := by decide +kernel
set_option maxRecDepth 20000 in
theorem ggX8_readsRight_X8_takenNumber : GoodIn wsX8_readsRight wsX8_takenNumber := goodIn_r _ [5, 6, 7, 8, 9, 4, 10, 11, 12, 13, 14, 15, 16, 17, 18, 19, 84, 85, 86] (by decide +kernel) (by decide +kernel)
set_option maxRecDepth 20000 in
theorem gX8_readsRight_X8_takenNumber : GoodIn wsX8_readsRight (wsV RX8 53 RX8 yX8_takenNumber wsX8_takenNumber) := goodIn_app (goodIn_of _ (by decide +kernel)) ggX8_readsRight_X8_takenNumber
set_option maxRecDepth 20000 in
theorem ggX8_readsRight_X8_takesWord : GoodIn wsX8_readsRight wsX8_takesWord := goodIn_r _ [23, 6, 7, 8, 9, 4, 10, 11, 12, 13, 14, 15, 16, 24, 25, 26, 27, 28, 29, 30, 31, 32, 33, 34, 35, 36, 37, 38, 39, 40, 41, 42, 43, 44, 45, 46, 47, 48, 49, 50, 51, 52, 53, 54, 55, 56, 57, 58, 59, 60, 61, 62, 63, 64, 65, 66, 67, 68, 69, 70, 71, 72, 17, 18, 19, 84, 85, 86] (by decide +kernel) (by decide +kernel)
set_option maxRecDepth 20000 in
theorem gX8_readsRight_X8_takesWord : GoodIn wsX8_readsRight (wsV RX8 40 RX8 yX8_takesWord wsX8_takesWord) := goodIn_app (goodIn_of _ (by decide +kernel)) ggX8_readsRight_X8_takesWord
set_option maxRecDepth 20000 in
theorem ggX8_readsRight_X4_addPart : GoodIn wsX8_readsRight wsX4_addPart := goodIn_r _ [77, 78, 79, 80, 81, 82, 83, 87, 88, 89, 90, 91, 92, 93] (by decide +kernel) (by decide +kernel)
set_option maxRecDepth 20000 in
theorem gX8_readsRight_X4_addPart : GoodIn wsX8_readsRight (wsV RX8 67 RX4 yX4_addPart wsX4_addPart) := goodIn_app (goodIn_of _ (by decide +kernel)) ggX8_readsRight_X4_addPart
theorem dX8_readsRight_0 : decode cX8_readsRight 0 = .ok (.aload_n 0, 1) := by decide +kernel
theorem dX8_readsRight_1 : decode cX8_readsRight 1 = .ok (.iconst 0, 1) := by decide +kernel
theorem dX8_readsRight_2 : decode cX8_readsRight 2 = .ok (.iload_n 2, 1) := by decide +kernel
theorem dX8_readsRight_3 : decode cX8_readsRight 3 = .ok (.iconst 1, 1) := by decide +kernel
theorem dX8_readsRight_4 : decode cX8_readsRight 4 = .ok (.isub, 1) := by decide +kernel
theorem dX8_readsRight_5 : decode cX8_readsRight 5 = .ok (.invokevirtual 53, 3) := by decide +kernel
theorem dX8_readsRight_8 : decode cX8_readsRight 8 = .ok (.istore_n 3, 1) := by decide +kernel
theorem dX8_readsRight_9 : decode cX8_readsRight 9 = .ok (.iload_n 3, 1) := by decide +kernel
theorem dX8_readsRight_10 : decode cX8_readsRight 10 = .ok (.iconst (-1), 1) := by decide +kernel
theorem dX8_readsRight_11 : decode cX8_readsRight 11 = .ok (.if_icmp .eq 12, 3) := by decide +kernel
theorem dX8_readsRight_14 : decode cX8_readsRight 14 = .ok (.aload_n 0, 1) := by decide +kernel
theorem dX8_readsRight_15 : decode cX8_readsRight 15 = .ok (.ldc 59, 2) := by decide +kernel
theorem dX8_readsRight_17 : decode cX8_readsRight 17 = .ok (.invokevirtual 40, 3) := by decide +kernel
theorem dX8_readsRight_20 : decode cX8_readsRight 20 = .ok (.ifCond .ne 5, 3) := by decide +kernel
theorem dX8_readsRight_23 : decode cX8_readsRight 23 = .ok (.iconst 0, 1) := by decide +kernel
theorem dX8_readsRight_24 : decode cX8_readsRight 24 = .ok (.ireturn, 1) := by decide +kernel
theorem dX8_readsRight_25 : decode cX8_readsRight 25 = .ok (.aload_n 0, 1) := by decide +kernel
theorem dX8_readsRight_26 : decode cX8_readsRight 26 = .ok (.iconst 0, 1) := by decide +kernel
theorem dX8_readsRight_27 : decode cX8_readsRight 27 = .ok (.bipush 7, 2) := by decide +kernel
theorem dX8_readsRight_29 : decode cX8_readsRight 29 = .ok (.invokevirtual 53, 3) := by decide +kernel
theorem dX8_readsRight_32 : decode cX8_readsRight 32 = .ok (.istore 4, 2) := by decide +kernel
theorem dX8_readsRight_34 : decode cX8_readsRight 34 = .ok (.iload 4, 2) := by decide +kernel
theorem dX8_readsRight_36 : decode cX8_readsRight 36 = .ok (.iconst (-1), 1) := by decide +kernel
theorem dX8_readsRight_37 : decode cX8_readsRight 37 = .ok (.if_icmp .eq 12, 3) := by decide +kernel
theorem dX8_readsRight_40 : decode cX8_readsRight 40 = .ok (.aload_n 0, 1) := by decide +kernel
theorem dX8_readsRight_41 : decode cX8_readsRight 41 = .ok (.ldc 61, 2) := by decide +kernel
theorem dX8_readsRight_43 : decode cX8_readsRight 43 = .ok (.invokevirtual 40, 3) := by decide +kernel
theorem dX8_readsRight_46 : decode cX8_readsRight 46 = .ok (.ifCond .ne 5, 3) := by decide +kernel
theorem dX8_readsRight_49 : decode cX8_readsRight 49 = .ok (.iconst 0, 1) := by decide +kernel
theorem dX8_readsRight_50 : decode cX8_readsRight 50 = .ok (.ireturn, 1) := by decide +kernel
theorem dX8_readsRight_51 : decode cX8_readsRight 51 = .ok (.aload_n 0, 1) := by decide +kernel
theorem dX8_readsRight_52 : decode cX8_readsRight 52 = .ok (.iconst 0, 1) := by decide +kernel
theorem dX8_readsRight_53 : decode cX8_readsRight 53 = .ok (.bipush 99, 2) := by decide +kernel
theorem dX8_readsRight_55 : decode cX8_readsRight 55 = .ok (.invokevirtual 53, 3) := by decide +kernel
theorem dX8_readsRight_58 : decode cX8_readsRight 58 = .ok (.istore 5, 2) := by decide +kernel
theorem dX8_readsRight_60 : decode cX8_readsRight 60 = .ok (.iload 5, 2) := by decide +kernel
theorem dX8_readsRight_62 : decode cX8_readsRight 62 = .ok (.iconst (-1), 1) := by decide +kernel
theorem dX8_readsRight_63 : decode cX8_readsRight 63 = .ok (.if_icmp .eq 12, 3) := by decide +kernel
theorem dX8_readsRight_66 : decode cX8_readsRight 66 = .ok (.aload_n 0, 1) := by decide +kernel
theorem dX8_readsRight_67 : decode cX8_readsRight 67 = .ok (.ldc 63, 2) := by decide +kernel
theorem dX8_readsRight_69 : decode cX8_readsRight 69 = .ok (.invokevirtual 40, 3) := by decide +kernel
theorem dX8_readsRight_72 : decode cX8_readsRight 72 = .ok (.ifCond .ne 5, 3) := by decide +kernel
theorem dX8_readsRight_75 : decode cX8_readsRight 75 = .ok (.iconst 0, 1) := by decide +kernel
theorem dX8_readsRight_76 : decode cX8_readsRight 76 = .ok (.ireturn, 1) := by decide +kernel
theorem dX8_readsRight_77 : decode cX8_readsRight 77 = .ok (.aload_n 0, 1) := by decide +kernel
theorem dX8_readsRight_78 : decode cX8_readsRight 78 = .ok (.iload 5, 2) := by decide +kernel
theorem dX8_readsRight_80 : decode cX8_readsRight 80 = .ok (.bipush 99, 2) := by decide +kernel
theorem dX8_readsRight_82 : decode cX8_readsRight 82 = .ok (.invokevirtual 53, 3) := by decide +kernel
theorem dX8_readsRight_85 : decode cX8_readsRight 85 = .ok (.istore 6, 2) := by decide +kernel
theorem dX8_readsRight_87 : decode cX8_readsRight 87 = .ok (.iload 6, 2) := by decide +kernel
theorem dX8_readsRight_89 : decode cX8_readsRight 89 = .ok (.iconst (-1), 1) := by decide +kernel
theorem dX8_readsRight_90 : decode cX8_readsRight 90 = .ok (.if_icmp .eq 12, 3) := by decide +kernel
theorem dX8_readsRight_93 : decode cX8_readsRight 93 = .ok (.aload_n 0, 1) := by decide +kernel
theorem dX8_readsRight_94 : decode cX8_readsRight 94 = .ok (.ldc 65, 2) := by decide +kernel
theorem dX8_readsRight_96 : decode cX8_readsRight 96 = .ok (.invokevirtual 40, 3) := by decide +kernel
theorem dX8_readsRight_99 : decode cX8_readsRight 99 = .ok (.ifCond .ne 5, 3) := by decide +kernel
theorem dX8_readsRight_102 : decode cX8_readsRight 102 = .ok (.iconst 0, 1) := by decide +kernel
theorem dX8_readsRight_103 : decode cX8_readsRight 103 = .ok (.ireturn, 1) := by decide +kernel
