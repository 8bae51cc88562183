theorem dX3_passDay_11 : decode cX3_passDay 11 = .ok (.istore_n 2, 1) := by decide +kernel
theorem dX3_passDay_12 : decode cX3_passDay 12 = .ok (.aload_n 0, 1) := by decide +kernel
theorem dX3_passDay_13 : decode cX3_passDay 13 = .ok (.getfield 9, 3) := by decide +kernel
theorem dX3_passDay_16 : decode cX3_passDay 16 = .ok (.dup, 1) := by decide +kernel
theorem dX3_passDay_17 : decode cX3_passDay 17 = .ok (.getfield 19, 3) := by decide +kernel
theorem dX3_passDay_20 : decode cX3_passDay 20 = .ok (.iload_n 2, 1) := by decide +kernel
theorem dX3_passDay_21 : decode cX3_passDay 21 = .ok (.iadd, 1) := by decide +kernel
theorem dX3_passDay_22 : decode cX3_passDay 22 = .ok (.putfield 19, 3) := by decide +kernel
theorem dX3_passDay_25 : decode cX3_passDay 25 = .ok (.aload_n 0, 1) := by decide +kernel
theorem dX3_passDay_26 : decode cX3_passDay 26 = .ok (.getfield 9, 3) := by decide +kernel
theorem dX3_passDay_29 : decode cX3_passDay 29 = .ok (.dup, 1) := by decide +kernel
theorem dX3_passDay_30 : decode cX3_passDay 30 = .ok (.getfield 24, 3) := by decide +kernel
theorem dX3_passDay_33 : decode cX3_passDay 33 = .ok (.aload_n 0, 1) := by decide +kernel
theorem dX3_passDay_34 : decode cX3_passDay 34 = .ok (.getfield 15, 3) := by decide +kernel
theorem dX3_passDay_37 : decode cX3_passDay 37 = .ok (.iload_n 2, 1) := by decide +kernel
theorem dX3_passDay_38 : decode cX3_passDay 38 = .ok (.isub, 1) := by decide +kernel
theorem dX3_passDay_39 : decode cX3_passDay 39 = .ok (.iadd, 1) := by decide +kernel
theorem dX3_passDay_40 : decode cX3_passDay 40 = .ok (.putfield 24, 3) := by decide +kernel
theorem dX3_passDay_43 : decode cX3_passDay 43 = .ok (.aload_n 0, 1) := by decide +kernel
theorem dX3_passDay_44 : decode cX3_passDay 44 = .ok (.iconst 0, 1) := by decide +kernel
theorem dX3_passDay_45 : decode cX3_passDay 45 = .ok (.putfield 27, 3) := by decide +kernel
theorem dX3_passDay_48 : decode cX3_passDay 48 = .ok (.goto 42, 3) := by decide +kernel
theorem dX3_passDay_51 : decode cX3_passDay 51 = .ok (.aload_n 0, 1) := by decide +kernel
theorem dX3_passDay_52 : decode cX3_passDay 52 = .ok (.dup, 1) := by decide +kernel
theorem dX3_passDay_53 : decode cX3_passDay 53 = .ok (.getfield 27, 3) := by decide +kernel
theorem dX3_passDay_56 : decode cX3_passDay 56 = .ok (.iconst 1, 1) := by decide +kernel
theorem dX3_passDay_57 : decode cX3_passDay 57 = .ok (.isub, 1) := by decide +kernel
theorem dX3_passDay_58 : decode cX3_passDay 58 = .ok (.putfield 27, 3) := by decide +kernel
theorem dX3_passDay_61 : decode cX3_passDay 61 = .ok (.aload_n 0, 1) := by decide +kernel
theorem dX3_passDay_62 : decode cX3_passDay 62 = .ok (.getfield 9, 3) := by decide +kernel
theorem dX3_passDay_65 : decode cX3_passDay 65 = .ok (.dup, 1) := by decide +kernel
theorem dX3_passDay_66 : decode cX3_passDay 66 = .ok (.getfield 30, 3) := by decide +kernel
theorem dX3_passDay_69 : decode cX3_passDay 69 = .ok (.aload_n 0, 1) := by decide +kernel
theorem dX3_passDay_70 : decode cX3_passDay 70 = .ok (.getfield 27, 3) := by decide +kernel
theorem dX3_passDay_73 : decode cX3_passDay 73 = .ok (.ifCond .ne 12, 3) := by decide +kernel
theorem dX3_passDay_76 : decode cX3_passDay 76 = .ok (.aload_n 0, 1) := by decide +kernel
theorem dX3_passDay_77 : decode cX3_passDay 77 = .ok (.getfield 15, 3) := by decide +kernel
theorem dX3_passDay_80 : decode cX3_passDay 80 = .ok (.iconst 5, 1) := by decide +kernel
theorem dX3_passDay_81 : decode cX3_passDay 81 = .ok (.idiv, 1) := by decide +kernel
theorem dX3_passDay_82 : decode cX3_passDay 82 = .ok (.goto 4, 3) := by decide +kernel
theorem dX3_passDay_85 : decode cX3_passDay 85 = .ok (.iconst 0, 1) := by decide +kernel
theorem dX3_passDay_86 : decode cX3_passDay 86 = .ok (.iadd, 1) := by decide +kernel
theorem dX3_passDay_87 : decode cX3_passDay 87 = .ok (.putfield 30, 3) := by decide +kernel
theorem dX3_passDay_90 : decode cX3_passDay 90 = .ok (.return_, 1) := by decide +kernel
theorem dX4_init_0 : decode cX4_init 0 = .ok (.aload_n 0, 1) := by decide +kernel
theorem dX4_init_1 : decode cX4_init 1 = .ok (.invokespecial 3, 3) := by decide +kernel
theorem dX4_init_4 : decode cX4_init 4 = .ok (.aload_n 0, 1) := by decide +kernel
theorem dX4_init_5 : decode cX4_init 5 = .ok (.bipush 15, 2) := by decide +kernel
theorem dX4_init_7 : decode cX4_init 7 = .ok (.newarray .int, 2) := by decide +kernel
theorem dX4_init_9 : decode cX4_init 9 = .ok (.putfield 9, 3) := by decide +kernel
theorem dX4_init_12 : decode cX4_init 12 = .ok (.aload_n 0, 1) := by decide +kernel
theorem dX4_init_13 : decode cX4_init 13 = .ok (.bipush 15, 2) := by decide +kernel
theorem dX4_init_15 : decode cX4_init 15 = .ok (.newarray .int, 2) := by decide +kernel
theorem dX4_init_17 : decode cX4_init 17 = .ok (.putfield 15, 3) := by decide +kernel
theorem dX4_init_20 : decode cX4_init 20 = .ok (.aload_n 0, 1) := by decide +kernel
theorem dX4_init_21 : decode cX4_init 21 = .ok (.bipush 15, 2) := by decide +kernel
theorem dX4_init_23 : decode cX4_init 23 = .ok (.newarray .int, 2) := by decide +kernel
theorem dX4_init_25 : decode cX4_init 25 = .ok (.putfield 18, 3) := by decide +kernel
theorem dX4_init_28 : decode cX4_init 28 = .ok (.aload_n 0, 1) := by decide +kernel
theorem dX4_init_29 : decode cX4_init 29 = .ok (.bipush 15, 2) := by decide +kernel
theorem dX4_init_31 : decode cX4_init 31 = .ok (.newarray .int, 2) := by decide +kernel
theorem dX4_init_33 : decode cX4_init 33 = .ok (.putfield 21, 3) := by decide +kernel
theorem dX4_init_36 : decode cX4_init 36 = .ok (.aload_n 0, 1) := by decide +kernel
theorem dX4_init_37 : decode cX4_init 37 = .ok (.bipush 15, 2) := by decide +kernel
theorem dX4_init_39 : decode cX4_init 39 = .ok (.newarray .int, 2) := by decide +kernel
theorem dX4_init_41 : decode cX4_init 41 = .ok (.putfield 24, 3) := by decide +kernel
theorem dX4_init_44 : decode cX4_init 44 = .ok (.aload_n 0, 1) := by decide +kernel
theorem dX4_init_45 : decode cX4_init 45 = .ok (.iconst 2, 1) := by decide +kernel
theorem dX4_init_46 : decode cX4_init 46 = .ok (.putfield 27, 3) := by decide +kernel
theorem dX4_init_49 : decode cX4_init 49 = .ok (.return_, 1) := by decide +kernel
theorem dX4_forgetAll_0 : decode cX4_forgetAll 0 = .ok (.aload_n 0, 1) := by decide +kernel
theorem dX4_forgetAll_1 : decode cX4_forgetAll 1 = .ok (.iconst 0, 1) := by decide +kernel
theorem dX4_forgetAll_2 : decode cX4_forgetAll 2 = .ok (.putfield 31, 3) := by decide +kernel
theorem dX4_forgetAll_5 : decode cX4_forgetAll 5 = .ok (.aload_n 0, 1) := by decide +kernel
theorem dX4_forgetAll_6 : decode cX4_forgetAll 6 = .ok (.iconst 2, 1) := by decide +kernel
theorem dX4_forgetAll_7 : decode cX4_forgetAll 7 = .ok (.putfield 27, 3) := by decide +kernel
theorem dX4_forgetAll_10 : decode cX4_forgetAll 10 = .ok (.return_, 1) := by decide +kernel
theorem dX4_addPart_0 : decode cX4_addPart 0 = .ok (.aload_n 0, 1) := by decide +kernel
theorem dX4_addPart_1 : decode cX4_addPart 1 = .ok (.getfield 31, 3) := by decide +kernel
theorem dX4_addPart_4 : decode cX4_addPart 4 = .ok (.bipush 15, 2) := by decide +kernel
theorem dX4_addPart_6 : decode cX4_addPart 6 = .ok (.if_icmp .lt 4, 3) := by decide +kernel
theorem dX4_addPart_9 : decode cX4_addPart 9 = .ok (.return_, 1) := by decide +kernel
theorem dX4_addPart_10 : decode cX4_addPart 10 = .ok (.aload_n 0, 1) := by decide +kernel
theorem dX4_addPart_11 : decode cX4_addPart 11 = .ok (.getfield 9, 3) := by decide +kernel
theorem dX4_addPart_14 : decode cX4_addPart 14 = .ok (.aload_n 0, 1) := by decide +kernel
theorem dX4_addPart_15 : decode cX4_addPart 15 = .ok (.getfield 31, 3) := by decide +kernel
theorem dX4_addPart_18 : decode cX4_addPart 18 = .ok (.iload_n 1, 1) := by decide +kernel
theorem dX4_addPart_19 : decode cX4_addPart 19 = .ok (.iastore, 1) := by decide +kernel
theorem dX4_addPart_20 : decode cX4_addPart 20 = .ok (.aload_n 0, 1) := by decide +kernel
theorem dX4_addPart_21 : decode cX4_addPart 21 = .ok (.getfield 15, 3) := by decide +kernel
theorem dX4_addPart_24 : decode cX4_addPart 24 = .ok (.aload_n 0, 1) := by decide +kernel
theorem dX4_addPart_25 : decode cX4_addPart 25 = .ok (.getfield 31, 3) := by decide +kernel
theorem dX4_addPart_28 : decode cX4_addPart 28 = .ok (.iload_n 2, 1) := by decide +kernel
theorem dX4_addPart_29 : decode cX4_addPart 29 = .ok (.iastore, 1) := by decide +kernel
theorem dX4_addPart_30 : decode cX4_addPart 30 = .ok (.aload_n 0, 1) := by decide +kernel
theorem dX4_addPart_31 : decode cX4_addPart 31 = .ok (.getfield 18, 3) := by decide +kernel
theorem dX4_addPart_34 : decode cX4_addPart 34 = .ok (.aload_n 0, 1) := by decide +kernel
theorem dX4_addPart_35 : decode cX4_addPart 35 = .ok (.getfield 31, 3) := by decide +kernel
theorem dX4_addPart_38 : decode cX4_addPart 38 = .ok (.iload_n 3, 1) := by decide +kernel
theorem dX4_addPart_39 : decode cX4_addPart 39 = .ok (.iastore, 1) := by decide +kernel
theorem dX4_addPart_40 : decode cX4_addPart 40 = .ok (.aload_n 0, 1) := by decide +kernel
theorem dX4_addPart_41 : decode cX4_addPart 41 = .ok (.getfield 21, 3) := by decide +kernel
theorem dX4_addPart_44 : decode cX4_addPart 44 = .ok (.aload_n 0, 1) := by decide +kernel
theorem dX4_addPart_45 : decode cX4_addPart 45 = .ok (.getfield 31, 3) := by decide +kernel
theorem dX4_addPart_48 : decode cX4_addPart 48 = .ok (.iload 4, 2) := by decide +kernel
theorem dX4_addPart_50 : decode cX4_addPart 50 = .ok (.iastore, 1) := by decide +kernel
theorem dX4_addPart_51 : decode cX4_addPart 51 = .ok (.aload_n 0, 1) := by decide +kernel
theorem dX4_addPart_52 : decode cX4_addPart 52 = .ok (.getfield 24, 3) := by decide +kernel
theorem dX4_addPart_55 : decode cX4_addPart 55 = .ok (.aload_n 0, 1) := by decide +kernel
theorem dX4_addPart_56 : decode cX4_addPart 56 = .ok (.getfield 31, 3) := by decide +kernel
theorem dX4_addPart_59 : decode cX4_addPart 59 = .ok (.iload 5, 2) := by decide +kernel
theorem dX4_addPart_61 : decode cX4_addPart 61 = .ok (.iastore, 1) := by decide +kernel
theorem dX4_addPart_62 : decode cX4_addPart 62 = .ok (.aload_n 0, 1) := by decide +kernel
theorem dX4_addPart_63 : decode cX4_addPart 63 = .ok (.dup, 1) := by decide +kernel
theorem dX4_addPart_64 : decode cX4_addPart 64 = .ok (.getfield 31, 3) := by decide +kernel
theorem dX4_addPart_67 : decode cX4_addPart 67 = .ok (.iconst 1, 1) := by decide +kernel
theorem dX4_addPart_68 : decode cX4_addPart 68 = .ok (.iadd, 1) := by decide +kernel
theorem dX4_addPart_69 : decode cX4_addPart 69 = .ok (.putfield 31, 3) := by decide +kernel
theorem dX4_addPart_72 : decode cX4_addPart 72 = .ok (.return_, 1) := by decide +kernel
set_option maxRecDepth 20000 in
theorem ggX4_firstPart_X9_isWithin : GoodIn wsX4_firstPart wsX9_isWithin := goodIn_r _ [8] (by decide +kernel) (by decide +kernel)
set_option maxRecDepth 20000 in
theorem gX4_firstPart_X9_isWithin_n34 : GoodIn wsX4_firstPart (wsX9_isWithin) := ggX4_firstPart_X9_isWithin
theorem dX4_firstPart_0 : decode cX4_firstPart 0 = .ok (.iconst 0, 1) := by decide +kernel
theorem dX4_firstPart_1 : decode cX4_firstPart 1 = .ok (.istore 4, 2) := by decide +kernel
theorem dX4_firstPart_3 : decode cX4_firstPart 3 = .ok (.iload 4, 2) := by decide +kernel
theorem dX4_firstPart_5 : decode cX4_firstPart 5 = .ok (.aload_n 0, 1) := by decide +kernel
theorem dX4_firstPart_6 : decode cX4_firstPart 6 = .ok (.getfield 31, 3) := by decide +kernel
theorem dX4_firstPart_9 : decode cX4_firstPart 9 = .ok (.if_icmp .ge 62, 3) := by decide +kernel
theorem dX4_firstPart_12 : decode cX4_firstPart 12 = .ok (.iload 4, 2) := by decide +kernel
theorem dX4_firstPart_14 : decode cX4_firstPart 14 = .ok (.bipush 15, 2) := by decide +kernel
theorem dX4_firstPart_16 : decode cX4_firstPart 16 = .ok (.if_icmp .ge 55, 3) := by decide +kernel
theorem dX4_firstPart_19 : decode cX4_firstPart 19 = .ok (.aload_n 0, 1) := by decide +kernel
theorem dX4_firstPart_20 : decode cX4_firstPart 20 = .ok (.getfield 9, 3) := by decide +kernel
theorem dX4_firstPart_23 : decode cX4_firstPart 23 = .ok (.iload 4, 2) := by decide +kernel
theorem dX4_firstPart_25 : decode cX4_firstPart 25 = .ok (.iaload, 1) := by decide +kernel
theorem dX4_firstPart_26 : decode cX4_firstPart 26 = .ok (.iload_n 1, 1) := by decide +kernel
theorem dX4_firstPart_27 : decode cX4_firstPart 27 = .ok (.if_icmp .ne 38, 3) := by decide +kernel
theorem dX4_firstPart_30 : decode cX4_firstPart 30 = .ok (.aload_n 0, 1) := by decide +kernel
theorem dX4_firstPart_31 : decode cX4_firstPart 31 = .ok (.getfield 15, 3) := by decide +kernel
theorem dX4_firstPart_34 : decode cX4_firstPart 34 = .ok (.iload 4, 2) := by decide +kernel
theorem dX4_firstPart_36 : decode cX4_firstPart 36 = .ok (.iaload, 1) := by decide +kernel
theorem dX4_firstPart_37 : decode cX4_firstPart 37 = .ok (.iload_n 2, 1) := by decide +kernel
theorem dX4_firstPart_38 : decode cX4_firstPart 38 = .ok (.if_icmp .ne 27, 3) := by decide +kernel
theorem dX4_firstPart_41 : decode cX4_firstPart 41 = .ok (.iload_n 3, 1) := by decide +kernel
theorem dX4_firstPart_42 : decode cX4_firstPart 42 = .ok (.aload_n 0, 1) := by decide +kernel
theorem dX4_firstPart_43 : decode cX4_firstPart 43 = .ok (.getfield 18, 3) := by decide +kernel
theorem dX4_firstPart_46 : decode cX4_firstPart 46 = .ok (.iload 4, 2) := by decide +kernel
theorem dX4_firstPart_48 : decode cX4_firstPart 48 = .ok (.iaload, 1) := by decide +kernel
theorem dX4_firstPart_49 : decode cX4_firstPart 49 = .ok (.aload_n 0, 1) := by decide +kernel
theorem dX4_firstPart_50 : decode cX4_firstPart 50 = .ok (.getfield 21, 3) := by decide +kernel
theorem dX4_firstPart_53 : decode cX4_firstPart 53 = .ok (.iload 4, 2) := by decide +kernel
theorem dX4_firstPart_55 : decode cX4_firstPart 55 = .ok (.iaload, 1) := by decide +kernel
theorem dX4_firstPart_56 : decode cX4_firstPart 56 = .ok (.invokestatic 34, 3) := by decide +kernel
theorem dX4_firstPart_59 : decode cX4_firstPart 59 = .ok (.ifCond .eq 6, 3) := by decide +kernel
theorem dX4_firstPart_62 : decode cX4_firstPart 62 = .ok (.iload 4, 2) := by decide +kernel
theorem dX4_firstPart_64 : decode cX4_firstPart 64 = .ok (.ireturn, 1) := by decide +kernel
theorem dX4_firstPart_65 : decode cX4_firstPart 65 = .ok (.iinc 4 1, 3) := by decide +kernel
theorem dX4_firstPart_68 : decode cX4_firstPart 68 = .ok (.goto (-65), 3) := by decide +kernel
theorem dX4_firstPart_71 : decode cX4_firstPart 71 = .ok (.iconst (-1), 1) := by decide +kernel
theorem dX4_firstPart_72 : decode cX4_firstPart 72 = .ok (.ireturn, 1) := by decide +kernel
theorem dX4_shareOf_0 : decode cX4_shareOf 0 = .ok (.iload_n 1, 1) := by decide +kernel
theorem dX4_shareOf_1 : decode cX4_shareOf 1 = .ok (.ifCond .lt 12, 3) := by decide +kernel
theorem dX4_shareOf_4 : decode cX4_shareOf 4 = .ok (.iload_n 1, 1) := by decide +kernel
theorem dX4_shareOf_5 : decode cX4_shareOf 5 = .ok (.aload_n 0, 1) := by decide +kernel
theorem dX4_shareOf_6 : decode cX4_shareOf 6 = .ok (.getfield 24, 3) := by decide +kernel
theorem dX4_shareOf_9 : decode cX4_shareOf 9 = .ok (.arraylength, 1) := by decide +kernel
theorem dX4_shareOf_10 : decode cX4_shareOf 10 = .ok (.if_icmp .lt 7, 3) := by decide +kernel
theorem dX4_shareOf_13 : decode cX4_shareOf 13 = .ok (.iconst 0, 1) := by decide +kernel
theorem dX4_shareOf_14 : decode cX4_shareOf 14 = .ok (.goto 9, 3) := by decide +kernel
theorem dX4_shareOf_17 : decode cX4_shareOf 17 = .ok (.aload_n 0, 1) := by decide +kernel
theorem dX4_shareOf_18 : decode cX4_shareOf 18 = .ok (.getfield 24, 3) := by decide +kernel
theorem dX4_shareOf_21 : decode cX4_shareOf 21 = .ok (.iload_n 1, 1) := by decide +kernel
theorem dX4_shareOf_22 : decode cX4_shareOf 22 = .ok (.iaload, 1) := by decide +kernel
theorem dX4_shareOf_23 : decode cX4_shareOf 23 = .ok (.ireturn, 1) := by decide +kernel
theorem dX5_init_0 : decode cX5_init 0 = .ok (.aload_n 0, 1) := by decide +kernel
theorem dX5_init_1 : decode cX5_init 1 = .ok (.invokespecial 3, 3) := by decide +kernel
theorem dX5_init_4 : decode cX5_init 4 = .ok (.aload_n 0, 1) := by decide +kernel
theorem dX5_init_5 : decode cX5_init 5 = .ok (.iconst (-1), 1) := by decide +kernel
theorem dX5_init_6 : decode cX5_init 6 = .ok (.putfield 9, 3) := by decide +kernel
theorem dX5_init_9 : decode cX5_init 9 = .ok (.aload_n 0, 1) := by decide +kernel
theorem dX5_init_10 : decode cX5_init 10 = .ok (.iconst (-1), 1) := by decide +kernel
theorem dX5_init_11 : decode cX5_init 11 = .ok (.putfield 15, 3) := by decide +kernel
theorem dX5_init_14 : decode cX5_init 14 = .ok (.aload_n 0, 1) := by decide +kernel
theorem dX5_init_15 : decode cX5_init 15 = .ok (.iconst (-1), 1) := by decide +kernel
theorem dX5_init_16 : decode cX5_init 16 = .ok (.putfield 18, 3) := by decide +kernel
theorem dX5_init_19 : decode cX5_init 19 = .ok (.aload_n 0, 1) := by decide +kernel
theorem dX5_init_20 : decode cX5_init 20 = .ok (.iload_n 1, 1) := by decide +kernel
theorem dX5_init_21 : decode cX5_init 21 = .ok (.putfield 21, 3) := by decide +kernel
theorem dX5_init_24 : decode cX5_init 24 = .ok (.aload_n 0, 1) := by decide +kernel
theorem dX5_init_25 : decode cX5_init 25 = .ok (.iload_n 2, 1) := by decide +kernel
theorem dX5_init_26 : decode cX5_init 26 = .ok (.putfield 24, 3) := by decide +kernel
theorem dX5_init_29 : decode cX5_init 29 = .ok (.aload_n 0, 1) := by decide +kernel
theorem dX5_init_30 : decode cX5_init 30 = .ok (.iload_n 2, 1) := by decide +kernel
theorem dX5_init_31 : decode cX5_init 31 = .ok (.putfield 27, 3) := by decide +kernel
theorem dX5_init_34 : decode cX5_init 34 = .ok (.aload_n 0, 1) := by decide +kernel
theorem dX5_init_35 : decode cX5_init 35 = .ok (.iload_n 2, 1) := by decide +kernel
theorem dX5_init_36 : decode cX5_init 36 = .ok (.putfield 30, 3) := by decide +kernel
theorem dX5_init_39 : decode cX5_init 39 = .ok (.return_, 1) := by decide +kernel
theorem dX5_growAgain_0 : decode cX5_growAgain 0 = .ok (.aload_n 0, 1) := by decide +kernel
theorem dX5_growAgain_1 : decode cX5_growAgain 1 = .ok (.getfield 24, 3) := by decide +kernel
theorem dX5_growAgain_4 : decode cX5_growAgain 4 = .ok (.aload_n 0, 1) := by decide +kernel
theorem dX5_growAgain_5 : decode cX5_growAgain 5 = .ok (.getfield 27, 3) := by decide +kernel
theorem dX5_growAgain_8 : decode cX5_growAgain 8 = .ok (.isub, 1) := by decide +kernel
theorem dX5_growAgain_9 : decode cX5_growAgain 9 = .ok (.iconst 3, 1) := by decide +kernel
theorem dX5_growAgain_10 : decode cX5_growAgain 10 = .ok (.iadd, 1) := by decide +kernel
theorem dX5_growAgain_11 : decode cX5_growAgain 11 = .ok (.iconst 4, 1) := by decide +kernel
theorem dX5_growAgain_12 : decode cX5_growAgain 12 = .ok (.idiv, 1) := by decide +kernel
theorem dX5_growAgain_13 : decode cX5_growAgain 13 = .ok (.istore_n 1, 1) := by decide +kernel
theorem dX5_growAgain_14 : decode cX5_growAgain 14 = .ok (.aload_n 0, 1) := by decide +kernel
theorem dX5_growAgain_15 : decode cX5_growAgain 15 = .ok (.dup, 1) := by decide +kernel
theorem dX5_growAgain_16 : decode cX5_growAgain 16 = .ok (.getfield 27, 3) := by decide +kernel
theorem dX5_growAgain_19 : decode cX5_growAgain 19 = .ok (.iload_n 1, 1) := by decide +kernel
theorem dX5_growAgain_20 : decode cX5_growAgain 20 = .ok (.iadd, 1) := by decide +kernel
theorem dX5_growAgain_21 : decode cX5_growAgain 21 = .ok (.putfield 27, 3) := by decide +kernel
theorem dX5_growAgain_24 : decode cX5_growAgain 24 = .ok (.aload_n 0, 1) := by decide +kernel
theorem dX5_growAgain_25 : decode cX5_growAgain 25 = .ok (.dup, 1) := by decide +kernel
theorem dX5_growAgain_26 : decode cX5_growAgain 26 = .ok (.getfield 30, 3) := by decide +kernel
theorem dX5_growAgain_29 : decode cX5_growAgain 29 = .ok (.iload_n 1, 1) := by decide +kernel
theorem dX5_growAgain_30 : decode cX5_growAgain 30 = .ok (.iadd, 1) := by decide +kernel
theorem dX5_growAgain_31 : decode cX5_growAgain 31 = .ok (.putfield 30, 3) := by decide +kernel
theorem dX5_growAgain_34 : decode cX5_growAgain 34 = .ok (.return_, 1) := by decide +kernel
theorem dX5_loseToStorm_0 : decode cX5_loseToStorm 0 = .ok (.aload_n 0, 1) := by decide +kernel
theorem dX5_loseToStorm_1 : decode cX5_loseToStorm 1 = .ok (.getfield 21, 3) := by decide +kernel
theorem dX5_loseToStorm_4 : decode cX5_loseToStorm 4 = .ok (.iload_n 1, 1) := by decide +kernel
theorem dX5_loseToStorm_5 : decode cX5_loseToStorm 5 = .ok (.if_icmp .le 7, 3) := by decide +kernel
theorem dX5_loseToStorm_8 : decode cX5_loseToStorm 8 = .ok (.iconst 0, 1) := by decide +kernel
theorem dX5_loseToStorm_9 : decode cX5_loseToStorm 9 = .ok (.goto 12, 3) := by decide +kernel
theorem dX5_loseToStorm_12 : decode cX5_loseToStorm 12 = .ok (.aload_n 0, 1) := by decide +kernel
theorem dX5_loseToStorm_13 : decode cX5_loseToStorm 13 = .ok (.getfield 27, 3) := by decide +kernel
theorem dX5_loseToStorm_16 : decode cX5_loseToStorm 16 = .ok (.iload_n 1, 1) := by decide +kernel
theorem dX5_loseToStorm_17 : decode cX5_loseToStorm 17 = .ok (.imul, 1) := by decide +kernel
theorem dX5_loseToStorm_18 : decode cX5_loseToStorm 18 = .ok (.bipush 100, 2) := by decide +kernel
theorem dX5_loseToStorm_20 : decode cX5_loseToStorm 20 = .ok (.idiv, 1) := by decide +kernel
theorem dX5_loseToStorm_21 : decode cX5_loseToStorm 21 = .ok (.istore_n 2, 1) := by decide +kernel
theorem dX5_loseToStorm_22 : decode cX5_loseToStorm 22 = .ok (.aload_n 0, 1) := by decide +kernel
theorem dX5_loseToStorm_23 : decode cX5_loseToStorm 23 = .ok (.dup, 1) := by decide +kernel
theorem dX5_loseToStorm_24 : decode cX5_loseToStorm 24 = .ok (.getfield 27, 3) := by decide +kernel
theorem dX5_loseToStorm_27 : decode cX5_loseToStorm 27 = .ok (.iload_n 2, 1) := by decide +kernel
theorem dX5_loseToStorm_28 : decode cX5_loseToStorm 28 = .ok (.isub, 1) := by decide +kernel
theorem dX5_loseToStorm_29 : decode cX5_loseToStorm 29 = .ok (.putfield 27, 3) := by decide +kernel
theorem dX5_loseToStorm_32 : decode cX5_loseToStorm 32 = .ok (.aload_n 0, 1) := by decide +kernel
theorem dX5_loseToStorm_33 : decode cX5_loseToStorm 33 = .ok (.dup, 1) := by decide +kernel
theorem dX5_loseToStorm_34 : decode cX5_loseToStorm 34 = .ok (.getfield 33, 3) := by decide +kernel
theorem dX5_loseToStorm_37 : decode cX5_loseToStorm 37 = .ok (.iload_n 2, 1) := by decide +kernel
theorem dX5_loseToStorm_38 : decode cX5_loseToStorm 38 = .ok (.iadd, 1) := by decide +kernel
theorem dX5_loseToStorm_39 : decode cX5_loseToStorm 39 = .ok (.putfield 33, 3) := by decide +kernel
theorem dX5_loseToStorm_42 : decode cX5_loseToStorm 42 = .ok (.iload_n 2, 1) := by decide +kernel
theorem dX5_loseToStorm_43 : decode cX5_loseToStorm 43 = .ok (.ireturn, 1) := by decide +kernel
theorem dX5_mustRest_0 : decode cX5_mustRest 0 = .ok (.aload_n 0, 1) := by decide +kernel
theorem dX5_mustRest_1 : decode cX5_mustRest 1 = .ok (.getfield 15, 3) := by decide +kernel
theorem dX5_mustRest_4 : decode cX5_mustRest 4 = .ok (.iload_n 2, 1) := by decide +kernel
theorem dX5_mustRest_5 : decode cX5_mustRest 5 = .ok (.if_icmp .ne 15, 3) := by decide +kernel
theorem dX5_mustRest_8 : decode cX5_mustRest 8 = .ok (.aload_n 0, 1) := by decide +kernel
theorem dX5_mustRest_9 : decode cX5_mustRest 9 = .ok (.getfield 18, 3) := by decide +kernel
theorem dX5_mustRest_12 : decode cX5_mustRest 12 = .ok (.iload_n 1, 1) := by decide +kernel
theorem dX5_mustRest_13 : decode cX5_mustRest 13 = .ok (.if_icmp .ne 7, 3) := by decide +kernel
theorem dX5_mustRest_16 : decode cX5_mustRest 16 = .ok (.iconst 1, 1) := by decide +kernel
theorem dX5_mustRest_17 : decode cX5_mustRest 17 = .ok (.goto 4, 3) := by decide +kernel
theorem dX5_mustRest_20 : decode cX5_mustRest 20 = .ok (.iconst 0, 1) := by decide +kernel
theorem dX5_mustRest_21 : decode cX5_mustRest 21 = .ok (.istore 4, 2) := by decide +kernel
theorem dX5_mustRest_23 : decode cX5_mustRest 23 = .ok (.aload_n 0, 1) := by decide +kernel
theorem dX5_mustRest_24 : decode cX5_mustRest 24 = .ok (.getfield 9, 3) := by decide +kernel
theorem dX5_mustRest_27 : decode cX5_mustRest 27 = .ok (.iconst (-1), 1) := by decide +kernel
theorem dX5_mustRest_28 : decode cX5_mustRest 28 = .ok (.if_icmp .eq 25, 3) := by decide +kernel
theorem dX5_mustRest_31 : decode cX5_mustRest 31 = .ok (.iload 4, 2) := by decide +kernel
theorem dX5_mustRest_33 : decode cX5_mustRest 33 = .ok (.ifCond .ne 20, 3) := by decide +kernel
theorem dX5_mustRest_36 : decode cX5_mustRest 36 = .ok (.iload_n 2, 1) := by decide +kernel
theorem dX5_mustRest_37 : decode cX5_mustRest 37 = .ok (.bipush 100, 2) := by decide +kernel
theorem dX5_mustRest_39 : decode cX5_mustRest 39 = .ok (.idiv, 1) := by decide +kernel
theorem dX5_mustRest_40 : decode cX5_mustRest 40 = .ok (.aload_n 0, 1) := by decide +kernel
theorem dX5_mustRest_41 : decode cX5_mustRest 41 = .ok (.getfield 9, 3) := by decide +kernel
theorem dX5_mustRest_44 : decode cX5_mustRest 44 = .ok (.isub, 1) := by decide +kernel
theorem dX5_mustRest_45 : decode cX5_mustRest 45 = .ok (.iload_n 3, 1) := by decide +kernel
theorem dX5_mustRest_46 : decode cX5_mustRest 46 = .ok (.if_icmp .gt 7, 3) := by decide +kernel
theorem dX5_mustRest_49 : decode cX5_mustRest 49 = .ok (.iconst 1, 1) := by decide +kernel
theorem dX5_mustRest_50 : decode cX5_mustRest 50 = .ok (.goto 4, 3) := by decide +kernel
theorem dX5_mustRest_53 : decode cX5_mustRest 53 = .ok (.iconst 0, 1) := by decide +kernel
theorem dX5_mustRest_54 : decode cX5_mustRest 54 = .ok (.ireturn, 1) := by decide +kernel
theorem dX5_loseToCutting_0 : decode cX5_loseToCutting 0 = .ok (.aload_n 0, 1) := by decide +kernel
theorem dX5_loseToCutting_1 : decode cX5_loseToCutting 1 = .ok (.dup, 1) := by decide +kernel
theorem dX5_loseToCutting_2 : decode cX5_loseToCutting 2 = .ok (.getfield 27, 3) := by decide +kernel
theorem dX5_loseToCutting_5 : decode cX5_loseToCutting 5 = .ok (.iload_n 1, 1) := by decide +kernel
theorem dX5_loseToCutting_6 : decode cX5_loseToCutting 6 = .ok (.isub, 1) := by decide +kernel
theorem dX5_loseToCutting_7 : decode cX5_loseToCutting 7 = .ok (.putfield 27, 3) := by decide +kernel
theorem dX5_loseToCutting_10 : decode cX5_loseToCutting 10 = .ok (.aload_n 0, 1) := by decide +kernel
theorem dX5_loseToCutting_11 : decode cX5_loseToCutting 11 = .ok (.dup, 1) := by decide +kernel
theorem dX5_loseToCutting_12 : decode cX5_loseToCutting 12 = .ok (.getfield 36, 3) := by decide +kernel
theorem dX5_loseToCutting_15 : decode cX5_loseToCutting 15 = .ok (.iload_n 1, 1) := by decide +kernel
theorem dX5_loseToCutting_16 : decode cX5_loseToCutting 16 = .ok (.iadd, 1) := by decide +kernel
theorem dX5_loseToCutting_17 : decode cX5_loseToCutting 17 = .ok (.putfield 36, 3) := by decide +kernel
theorem dX5_loseToCutting_20 : decode cX5_loseToCutting 20 = .ok (.aload_n 0, 1) := by decide +kernel
theorem dX5_loseToCutting_21 : decode cX5_loseToCutting 21 = .ok (.iload_n 3, 1) := by decide +kernel
theorem dX5_loseToCutting_22 : decode cX5_loseToCutting 22 = .ok (.bipush 100, 2) := by decide +kernel
theorem dX5_loseToCutting_24 : decode cX5_loseToCutting 24 = .ok (.idiv, 1) := by decide +kernel
theorem dX5_loseToCutting_25 : decode cX5_loseToCutting 25 = .ok (.putfield 9, 3) := by decide +kernel
theorem dX5_loseToCutting_28 : decode cX5_loseToCutting 28 = .ok (.aload_n 0, 1) := by decide +kernel
theorem dX5_loseToCutting_29 : decode cX5_loseToCutting 29 = .ok (.iload_n 3, 1) := by decide +kernel
theorem dX5_loseToCutting_30 : decode cX5_loseToCutting 30 = .ok (.putfield 15, 3) := by decide +kernel
theorem dX5_loseToCutting_33 : decode cX5_loseToCutting 33 = .ok (.aload_n 0, 1) := by decide +kernel
theorem dX5_loseToCutting_34 : decode cX5_loseToCutting 34 = .ok (.iload_n 2, 1) := by decide +kernel
theorem dX5_loseToCutting_35 : decode cX5_loseToCutting 35 = .ok (.putfield 18, 3) := by decide +kernel
theorem dX5_loseToCutting_38 : decode cX5_loseToCutting 38 = .ok (.return_, 1) := by decide +kernel
theorem dX6_init_0 : decode cX6_init 0 = .ok (.aload_n 0, 1) := by decide +kernel
theorem dX6_init_1 : decode cX6_init 1 = .ok (.invokespecial 3, 3) := by decide +kernel
theorem dX6_init_4 : decode cX6_init 4 = .ok (.aload_n 0, 1) := by decide +kernel
theorem dX6_init_5 : decode cX6_init 5 = .ok (.iconst 4, 1) := by decide +kernel
theorem dX6_init_6 : decode cX6_init 6 = .ok (.anewarray 9, 3) := by decide +kernel
theorem dX6_init_9 : decode cX6_init 9 = .ok (.putfield 11, 3) := by decide +kernel
theorem dX6_init_12 : decode cX6_init 12 = .ok (.return_, 1) := by decide +kernel
theorem dX6_addRock_0 : decode cX6_addRock 0 = .ok (.aload_n 0, 1) := by decide +kernel
theorem dX6_addRock_1 : decode cX6_addRock 1 = .ok (.getfield 17, 3) := by decide +kernel
theorem dX6_addRock_4 : decode cX6_addRock 4 = .ok (.aload_n 0, 1) := by decide +kernel
theorem dX6_addRock_5 : decode cX6_addRock 5 = .ok (.getfield 11, 3) := by decide +kernel
theorem dX6_addRock_8 : decode cX6_addRock 8 = .ok (.arraylength, 1) := by decide +kernel
theorem dX6_addRock_9 : decode cX6_addRock 9 = .ok (.if_icmp .lt 5, 3) := by decide +kernel
theorem dX6_addRock_12 : decode cX6_addRock 12 = .ok (.iconst (-1), 1) := by decide +kernel
theorem dX6_addRock_13 : decode cX6_addRock 13 = .ok (.ireturn, 1) := by decide +kernel
theorem dX6_addRock_14 : decode cX6_addRock 14 = .ok (.aload_n 0, 1) := by decide +kernel
theorem dX6_addRock_15 : decode cX6_addRock 15 = .ok (.getfield 11, 3) := by decide +kernel
theorem dX6_addRock_18 : decode cX6_addRock 18 = .ok (.aload_n 0, 1) := by decide +kernel
theorem dX6_addRock_19 : decode cX6_addRock 19 = .ok (.getfield 17, 3) := by decide +kernel
theorem dX6_addRock_22 : decode cX6_addRock 22 = .ok (.aload_n 1, 1) := by decide +kernel
theorem dX6_addRock_23 : decode cX6_addRock 23 = .ok (.aastore, 1) := by decide +kernel
theorem dX6_addRock_24 : decode cX6_addRock 24 = .ok (.aload_n 0, 1) := by decide +kernel
theorem dX6_addRock_25 : decode cX6_addRock 25 = .ok (.dup, 1) := by decide +kernel
theorem dX6_addRock_26 : decode cX6_addRock 26 = .ok (.getfield 17, 3) := by decide +kernel
theorem dX6_addRock_29 : decode cX6_addRock 29 = .ok (.iconst 1, 1) := by decide +kernel
theorem dX6_addRock_30 : decode cX6_addRock 30 = .ok (.iadd, 1) := by decide +kernel
theorem dX6_addRock_31 : decode cX6_addRock 31 = .ok (.putfield 17, 3) := by decide +kernel
theorem dX6_addRock_34 : decode cX6_addRock 34 = .ok (.aload_n 0, 1) := by decide +kernel
theorem dX6_addRock_35 : decode cX6_addRock 35 = .ok (.getfield 17, 3) := by decide +kernel
theorem dX6_addRock_38 : decode cX6_addRock 38 = .ok (.iconst 1, 1) := by decide +kernel
theorem dX6_addRock_39 : decode cX6_addRock 39 = .ok (.isub, 1) := by decide +kernel
theorem dX6_addRock_40 : decode cX6_addRock 40 = .ok (.ireturn, 1) := by decide +kernel
set_option maxRecDepth 20000 in
theorem ggX6_passDay_X5_growAgain : GoodIn wsX6_passDay wsX5_growAgain := goodIn_r _ [7, 8, 9, 10, 20, 21, 22, 23, 24, 25, 26, 27, 28] (by decide +kernel) (by decide +kernel)
set_option maxRecDepth 20000 in
theorem gX6_passDay_X5_growAgain : GoodIn wsX6_passDay (wsV RX6 21 RX5 yX5_growAgain wsX5_growAgain) := goodIn_app (goodIn_of _ (by decide +kernel)) ggX6_passDay_X5_growAgain
set_option maxRecDepth 20000 in
theorem ggX6_passDay_X5_loseToStorm : GoodIn wsX6_passDay wsX5_loseToStorm := goodIn_r _ [14, 15, 9, 16, 20, 21, 22, 23, 24, 25, 26, 27, 28] (by decide +kernel) (by decide +kernel)
set_option maxRecDepth 20000 in
theorem gX6_passDay_X5_loseToStorm : GoodIn wsX6_passDay (wsV RX6 27 RX5 yX5_loseToStorm wsX5_loseToStorm) := goodIn_app (goodIn_of _ (by decide +kernel)) ggX6_passDay_X5_loseToStorm
theorem dX6_passDay_0 : decode cX6_passDay 0 = .ok (.aload_n 0, 1) := by decide +kernel
theorem dX6_passDay_1 : decode cX6_passDay 1 = .ok (.getfield 11, 3) := by decide +kernel
theorem dX6_passDay_4 : decode cX6_passDay 4 = .ok (.astore_n 3, 1) := by decide +kernel
theorem dX6_passDay_5 : decode cX6_passDay 5 = .ok (.aload_n 3, 1) := by decide +kernel
theorem dX6_passDay_6 : decode cX6_passDay 6 = .ok (.arraylength, 1) := by decide +kernel
theorem dX6_passDay_7 : decode cX6_passDay 7 = .ok (.istore 4, 2) := by decide +kernel
theorem dX6_passDay_9 : decode cX6_passDay 9 = .ok (.iconst 0, 1) := by decide +kernel
theorem dX6_passDay_10 : decode cX6_passDay 10 = .ok (.istore 5, 2) := by decide +kernel
theorem dX6_passDay_12 : decode cX6_passDay 12 = .ok (.iload 5, 2) := by decide +kernel
theorem dX6_passDay_14 : decode cX6_passDay 14 = .ok (.iload 4, 2) := by decide +kernel
theorem dX6_passDay_16 : decode cX6_passDay 16 = .ok (.if_icmp .ge 47, 3) := by decide +kernel
theorem dX6_passDay_19 : decode cX6_passDay 19 = .ok (.aload_n 3, 1) := by decide +kernel
theorem dX6_passDay_20 : decode cX6_passDay 20 = .ok (.iload 5, 2) := by decide +kernel
theorem dX6_passDay_22 : decode cX6_passDay 22 = .ok (.aaload, 1) := by decide +kernel
theorem dX6_passDay_23 : decode cX6_passDay 23 = .ok (.astore 6, 2) := by decide +kernel
theorem dX6_passDay_25 : decode cX6_passDay 25 = .ok (.aload 6, 2) := by decide +kernel
theorem dX6_passDay_27 : decode cX6_passDay 27 = .ok (.ifnonnull 6, 3) := by decide +kernel
theorem dX6_passDay_30 : decode cX6_passDay 30 = .ok (.goto 27, 3) := by decide +kernel
theorem dX6_passDay_33 : decode cX6_passDay 33 = .ok (.iload_n 1, 1) := by decide +kernel
theorem dX6_passDay_34 : decode cX6_passDay 34 = .ok (.ifCond .eq 8, 3) := by decide +kernel
theorem dX6_passDay_37 : decode cX6_passDay 37 = .ok (.aload 6, 2) := by decide +kernel
theorem dX6_passDay_39 : decode cX6_passDay 39 = .ok (.invokevirtual 21, 3) := by decide +kernel
theorem dX6_passDay_42 : decode cX6_passDay 42 = .ok (.aload_n 0, 1) := by decide +kernel
theorem dX6_passDay_43 : decode cX6_passDay 43 = .ok (.dup, 1) := by decide +kernel
theorem dX6_passDay_44 : decode cX6_passDay 44 = .ok (.getfield 24, 3) := by decide +kernel
theorem dX6_passDay_47 : decode cX6_passDay 47 = .ok (.aload 6, 2) := by decide +kernel
theorem dX6_passDay_49 : decode cX6_passDay 49 = .ok (.iload_n 2, 1) := by decide +kernel
theorem dX6_passDay_50 : decode cX6_passDay 50 = .ok (.invokevirtual 27, 3) := by decide +kernel
theorem dX6_passDay_53 : decode cX6_passDay 53 = .ok (.iadd, 1) := by decide +kernel
theorem dX6_passDay_54 : decode cX6_passDay 54 = .ok (.putfield 24, 3) := by decide +kernel
theorem dX6_passDay_57 : decode cX6_passDay 57 = .ok (.iinc 5 1, 3) := by decide +kernel
theorem dX6_passDay_60 : decode cX6_passDay 60 = .ok (.goto (-48), 3) := by decide +kernel
theorem dX6_passDay_63 : decode cX6_passDay 63 = .ok (.return_, 1) := by decide +kernel
theorem dX7_init_0 : decode cX7_init 0 = .ok (.aload_n 0, 1) := by decide +kernel
theorem dX7_init_1 : decode cX7_init 1 = .ok (.invokespecial 3, 3) := by decide +kernel
theorem dX7_init_4 : decode cX7_init 4 = .ok (.aload_n 0, 1) := by decide +kernel
theorem dX7_init_5 : decode cX7_init 5 = .ok (.sipush 200, 3) := by decide +kernel
theorem dX7_init_8 : decode cX7_init 8 = .ok (.newarray .int, 2) := by decide +kernel
theorem dX7_init_10 : decode cX7_init 10 = .ok (.putfield 9, 3) := by decide +kernel
theorem dX7_init_13 : decode cX7_init 13 = .ok (.aload_n 0, 1) := by decide +kernel
theorem dX7_init_14 : decode cX7_init 14 = .ok (.sipush 200, 3) := by decide +kernel
theorem dX7_init_17 : decode cX7_init 17 = .ok (.newarray .int, 2) := by decide +kernel
theorem dX7_init_19 : decode cX7_init 19 = .ok (.putfield 15, 3) := by decide +kernel
theorem dX7_init_22 : decode cX7_init 22 = .ok (.aload_n 0, 1) := by decide +kernel
theorem dX7_init_23 : decode cX7_init 23 = .ok (.sipush 200, 3) := by decide +kernel
theorem dX7_init_26 : decode cX7_init 26 = .ok (.newarray .int, 2) := by decide +kernel
theorem dX7_init_28 : decode cX7_init 28 = .ok (.putfield 18, 3) := by decide +kernel
theorem dX7_init_31 : decode cX7_init 31 = .ok (.aload_n 0, 1) := by decide +kernel
theorem dX7_init_32 : decode cX7_init 32 = .ok (.sipush 200, 3) := by decide +kernel
theorem dX7_init_35 : decode cX7_init 35 = .ok (.newarray .int, 2) := by decide +kernel
theorem dX7_init_37 : decode cX7_init 37 = .ok (.putfield 21, 3) := by decide +kernel
theorem dX7_init_40 : decode cX7_init 40 = .ok (.aload_n 0, 1) := by decide +kernel
theorem dX7_init_41 : decode cX7_init 41 = .ok (.sipush 200, 3) := by decide +kernel
theorem dX7_init_44 : decode cX7_init 44 = .ok (.newarray .int, 2) := by decide +kernel
theorem dX7_init_46 : decode cX7_init 46 = .ok (.putfield 24, 3) := by decide +kernel
theorem dX7_init_49 : decode cX7_init 49 = .ok (.return_, 1) := by decide +kernel
theorem dX7_isFull_0 : decode cX7_isFull 0 = .ok (.aload_n 0, 1) := by decide +kernel
theorem dX7_isFull_1 : decode cX7_isFull 1 = .ok (.getfield 27, 3) := by decide +kernel
theorem dX7_isFull_4 : decode cX7_isFull 4 = .ok (.sipush 200, 3) := by decide +kernel
theorem dX7_isFull_7 : decode cX7_isFull 7 = .ok (.if_icmp .lt 7, 3) := by decide +kernel
theorem dX7_isFull_10 : decode cX7_isFull 10 = .ok (.iconst 1, 1) := by decide +kernel
theorem dX7_isFull_11 : decode cX7_isFull 11 = .ok (.goto 4, 3) := by decide +kernel
theorem dX7_isFull_14 : decode cX7_isFull 14 = .ok (.iconst 0, 1) := by decide +kernel
theorem dX7_isFull_15 : decode cX7_isFull 15 = .ok (.ireturn, 1) := by decide +kernel
theorem dX7_hasEntry_0 : decode cX7_hasEntry 0 = .ok (.iload_n 1, 1) := by decide +kernel
theorem dX7_hasEntry_1 : decode cX7_hasEntry 1 = .ok (.ifCond .lt 22, 3) := by decide +kernel
theorem dX7_hasEntry_4 : decode cX7_hasEntry 4 = .ok (.iload_n 1, 1) := by decide +kernel
theorem dX7_hasEntry_5 : decode cX7_hasEntry 5 = .ok (.aload_n 0, 1) := by decide +kernel
theorem dX7_hasEntry_6 : decode cX7_hasEntry 6 = .ok (.getfield 27, 3) := by decide +kernel
theorem dX7_hasEntry_9 : decode cX7_hasEntry 9 = .ok (.if_icmp .ge 14, 3) := by decide +kernel
theorem dX7_hasEntry_12 : decode cX7_hasEntry 12 = .ok (.iload_n 1, 1) := by decide +kernel
theorem dX7_hasEntry_13 : decode cX7_hasEntry 13 = .ok (.sipush 200, 3) := by decide +kernel
theorem dX7_hasEntry_16 : decode cX7_hasEntry 16 = .ok (.if_icmp .ge 7, 3) := by decide +kernel
theorem dX7_hasEntry_19 : decode cX7_hasEntry 19 = .ok (.iconst 1, 1) := by decide +kernel
theorem dX7_hasEntry_20 : decode cX7_hasEntry 20 = .ok (.goto 4, 3) := by decide +kernel
theorem dX7_hasEntry_23 : decode cX7_hasEntry 23 = .ok (.iconst 0, 1) := by decide +kernel
theorem dX7_hasEntry_24 : decode cX7_hasEntry 24 = .ok (.ireturn, 1) := by decide +kernel
set_option maxRecDepth 20000 in
theorem ggX7_addEntry_X7_isFull : GoodIn wsX7_addEntry wsX7_isFull := goodIn_r _ [11, 2, 12, 13, 14, 15, 16, 17] (by decide +kernel) (by decide +kernel)
set_option maxRecDepth 20000 in
theorem gX7_addEntry_X7_isFull : GoodIn wsX7_addEntry (wsV RX7 31 RX7 yX7_isFull wsX7_isFull) := goodIn_app (goodIn_of _ (by decide +kernel)) ggX7_addEntry_X7_isFull
theorem dX7_addEntry_0 : decode cX7_addEntry 0 = .ok (.aload_n 0, 1) := by decide +kernel
theorem dX7_addEntry_1 : decode cX7_addEntry 1 = .ok (.invokevirtual 31, 3) := by decide +kernel
theorem dX7_addEntry_4 : decode cX7_addEntry 4 = .ok (.ifCond .eq 5, 3) := by decide +kernel
theorem dX7_addEntry_7 : decode cX7_addEntry 7 = .ok (.iconst (-1), 1) := by decide +kernel
theorem dX7_addEntry_8 : decode cX7_addEntry 8 = .ok (.ireturn, 1) := by decide +kernel
theorem dX7_addEntry_9 : decode cX7_addEntry 9 = .ok (.aload_n 0, 1) := by decide +kernel
theorem dX7_addEntry_10 : decode cX7_addEntry 10 = .ok (.getfield 9, 3) := by decide +kernel
theorem dX7_addEntry_13 : decode cX7_addEntry 13 = .ok (.aload_n 0, 1) := by decide +kernel
theorem dX7_addEntry_14 : decode cX7_addEntry 14 = .ok (.getfield 27, 3) := by decide +kernel
theorem dX7_addEntry_17 : decode cX7_addEntry 17 = .ok (.iload_n 1, 1) := by decide +kernel
theorem dX7_addEntry_18 : decode cX7_addEntry 18 = .ok (.iastore, 1) := by decide +kernel
theorem dX7_addEntry_19 : decode cX7_addEntry 19 = .ok (.aload_n 0, 1) := by decide +kernel
theorem dX7_addEntry_20 : decode cX7_addEntry 20 = .ok (.getfield 15, 3) := by decide +kernel
theorem dX7_addEntry_23 : decode cX7_addEntry 23 = .ok (.aload_n 0, 1) := by decide +kernel
theorem dX7_addEntry_24 : decode cX7_addEntry 24 = .ok (.getfield 27, 3) := by decide +kernel
theorem dX7_addEntry_27 : decode cX7_addEntry 27 = .ok (.iload_n 2, 1) := by decide +kernel
theorem dX7_addEntry_28 : decode cX7_addEntry 28 = .ok (.iastore, 1) := by decide +kernel
theorem dX7_addEntry_29 : decode cX7_addEntry 29 = .ok (.aload_n 0, 1) := by decide +kernel
theorem dX7_addEntry_30 : decode cX7_addEntry 30 = .ok (.getfield 18, 3) := by decide +kernel
theorem dX7_addEntry_33 : decode cX7_addEntry 33 = .ok (.aload_n 0, 1) := by decide +kernel
theorem dX7_addEntry_34 : decode cX7_addEntry 34 = .ok (.getfield 27, 3) := by decide +kernel
theorem dX7_addEntry_37 : decode cX7_addEntry 37 = .ok (.iload_n 3, 1) := by decide +kernel
theorem dX7_addEntry_38 : decode cX7_addEntry 38 = .ok (.iastore, 1) := by decide +kernel
theorem dX7_addEntry_39 : decode cX7_addEntry 39 = .ok (.aload_n 0, 1) := by decide +kernel
theorem dX7_addEntry_40 : decode cX7_addEntry 40 = .ok (.getfield 21, 3) := by decide +kernel
theorem dX7_addEntry_43 : decode cX7_addEntry 43 = .ok (.aload_n 0, 1) := by decide +kernel
theorem dX7_addEntry_44 : decode cX7_addEntry 44 = .ok (.getfield 27, 3) := by decide +kernel
theorem dX7_addEntry_47 : decode cX7_addEntry 47 = .ok (.iload 4, 2) := by decide +kernel
theorem dX7_addEntry_49 : decode cX7_addEntry 49 = .ok (.iastore, 1) := by decide +kernel
theorem dX7_addEntry_50 : decode cX7_addEntry 50 = .ok (.aload_n 0, 1) := by decide +kernel
theorem dX7_addEntry_51 : decode cX7_addEntry 51 = .ok (.getfield 24, 3) := by decide +kernel
theorem dX7_addEntry_54 : decode cX7_addEntry 54 = .ok (.aload_n 0, 1) := by decide +kernel
theorem dX7_addEntry_55 : decode cX7_addEntry 55 = .ok (.getfield 27, 3) := by decide +kernel
theorem dX7_addEntry_58 : decode cX7_addEntry 58 = .ok (.iconst (-1), 1) := by decide +kernel
theorem dX7_addEntry_59 : decode cX7_addEntry 59 = .ok (.iastore, 1) := by decide +kernel
theorem dX7_addEntry_60 : decode cX7_addEntry 60 = .ok (.aload_n 0, 1) := by decide +kernel
theorem dX7_addEntry_61 : decode cX7_addEntry 61 = .ok (.dup, 1) := by decide +kernel
theorem dX7_addEntry_62 : decode cX7_addEntry 62 = .ok (.getfield 27, 3) := by decide +kernel
theorem dX7_addEntry_65 : decode cX7_addEntry 65 = .ok (.iconst 1, 1) := by decide +kernel
theorem dX7_addEntry_66 : decode cX7_addEntry 66 = .ok (.iadd, 1) := by decide +kernel
theorem dX7_addEntry_67 : decode cX7_addEntry 67 = .ok (.putfield 27, 3) := by decide +kernel
theorem dX7_addEntry_70 : decode cX7_addEntry 70 = .ok (.aload_n 0, 1) := by decide +kernel
theorem dX7_addEntry_71 : decode cX7_addEntry 71 = .ok (.getfield 27, 3) := by decide +kernel
theorem dX7_addEntry_74 : decode cX7_addEntry 74 = .ok (.iconst 1, 1) := by decide +kernel
theorem dX7_addEntry_75 : decode cX7_addEntry 75 = .ok (.isub, 1) := by decide +kernel
theorem dX7_addEntry_76 : decode cX7_addEntry 76 = .ok (.ireturn, 1) := by decide +kernel
set_option maxRecDepth 20000 in
theorem ggX7_takeBack_X7_hasEntry : GoodIn wsX7_takeBack wsX7_hasEntry := goodIn_r _ [6, 7, 8, 9, 10, 11, 12, 13] (by decide +kernel) (by decide +kernel)
set_option maxRecDepth 20000 in
theorem gX7_takeBack_X7_hasEntry : GoodIn wsX7_takeBack (wsV RX7 35 RX7 yX7_hasEntry wsX7_hasEntry) := goodIn_app (goodIn_of _ (by decide +kernel)) ggX7_takeBack_X7_hasEntry
theorem dX7_takeBack_0 : decode cX7_takeBack 0 = .ok (.aload_n 0, 1) := by decide +kernel
theorem dX7_takeBack_1 : decode cX7_takeBack 1 = .ok (.iload_n 1, 1) := by decide +kernel
theorem dX7_takeBack_2 : decode cX7_takeBack 2 = .ok (.invokevirtual 35, 3) := by decide +kernel
theorem dX7_takeBack_5 : decode cX7_takeBack 5 = .ok (.ifCond .eq 13, 3) := by decide +kernel
theorem dX7_takeBack_8 : decode cX7_takeBack 8 = .ok (.aload_n 0, 1) := by decide +kernel
theorem dX7_takeBack_9 : decode cX7_takeBack 9 = .ok (.getfield 24, 3) := by decide +kernel
theorem dX7_takeBack_12 : decode cX7_takeBack 12 = .ok (.iload_n 1, 1) := by decide +kernel
theorem dX7_takeBack_13 : decode cX7_takeBack 13 = .ok (.iaload, 1) := by decide +kernel
theorem dX7_takeBack_14 : decode cX7_takeBack 14 = .ok (.iconst (-1), 1) := by decide +kernel
theorem dX7_takeBack_15 : decode cX7_takeBack 15 = .ok (.if_icmp .eq 5, 3) := by decide +kernel
theorem dX7_takeBack_18 : decode cX7_takeBack 18 = .ok (.iconst 0, 1) := by decide +kernel
theorem dX7_takeBack_19 : decode cX7_takeBack 19 = .ok (.ireturn, 1) := by decide +kernel
theorem dX7_takeBack_20 : decode cX7_takeBack 20 = .ok (.aload_n 0, 1) := by decide +kernel
theorem dX7_takeBack_21 : decode cX7_takeBack 21 = .ok (.getfield 24, 3) := by decide +kernel
theorem dX7_takeBack_24 : decode cX7_takeBack 24 = .ok (.iload_n 1, 1) := by decide +kernel
theorem dX7_takeBack_25 : decode cX7_takeBack 25 = .ok (.iload_n 2, 1) := by decide +kernel
theorem dX7_takeBack_26 : decode cX7_takeBack 26 = .ok (.iastore, 1) := by decide +kernel
theorem dX7_takeBack_27 : decode cX7_takeBack 27 = .ok (.iconst 1, 1) := by decide +kernel
theorem dX7_takeBack_28 : decode cX7_takeBack 28 = .ok (.ireturn, 1) := by decide +kernel
set_option maxRecDepth 20000 in
theorem ggX7_sumKnown_X7_wasKnown : GoodIn wsX7_sumKnown wsX7_wasKnown := goodIn_r _ [9, 10, 11, 12, 13, 14, 8, 15, 1, 16, 17, 18, 19, 20, 21] (by decide +kernel) (by decide +kernel)
set_option maxRecDepth 20000 in
theorem gX7_sumKnown_X7_wasKnown : GoodIn wsX7_sumKnown (wsV RX7 39 RX7 yX7_wasKnown wsX7_wasKnown) := goodIn_app (goodIn_of _ (by decide +kernel)) ggX7_sumKnown_X7_wasKnown
theorem dX7_sumKnown_0 : decode cX7_sumKnown 0 = .ok (.iconst 0, 1) := by decide +kernel
theorem dX7_sumKnown_1 : decode cX7_sumKnown 1 = .ok (.istore 4, 2) := by decide +kernel
theorem dX7_sumKnown_3 : decode cX7_sumKnown 3 = .ok (.iconst 0, 1) := by decide +kernel
theorem dX7_sumKnown_4 : decode cX7_sumKnown 4 = .ok (.istore 5, 2) := by decide +kernel
theorem dX7_sumKnown_6 : decode cX7_sumKnown 6 = .ok (.iload 5, 2) := by decide +kernel
theorem dX7_sumKnown_8 : decode cX7_sumKnown 8 = .ok (.aload_n 0, 1) := by decide +kernel
theorem dX7_sumKnown_9 : decode cX7_sumKnown 9 = .ok (.getfield 27, 3) := by decide +kernel
theorem dX7_sumKnown_12 : decode cX7_sumKnown 12 = .ok (.if_icmp .ge 61, 3) := by decide +kernel
theorem dX7_sumKnown_15 : decode cX7_sumKnown 15 = .ok (.iload 5, 2) := by decide +kernel
theorem dX7_sumKnown_17 : decode cX7_sumKnown 17 = .ok (.sipush 200, 3) := by decide +kernel
theorem dX7_sumKnown_20 : decode cX7_sumKnown 20 = .ok (.if_icmp .ge 53, 3) := by decide +kernel
theorem dX7_sumKnown_23 : decode cX7_sumKnown 23 = .ok (.aload_n 0, 1) := by decide +kernel
theorem dX7_sumKnown_24 : decode cX7_sumKnown 24 = .ok (.getfield 9, 3) := by decide +kernel
theorem dX7_sumKnown_27 : decode cX7_sumKnown 27 = .ok (.iload 5, 2) := by decide +kernel
theorem dX7_sumKnown_29 : decode cX7_sumKnown 29 = .ok (.iaload, 1) := by decide +kernel
theorem dX7_sumKnown_30 : decode cX7_sumKnown 30 = .ok (.iload_n 1, 1) := by decide +kernel
theorem dX7_sumKnown_31 : decode cX7_sumKnown 31 = .ok (.if_icmp .ne 36, 3) := by decide +kernel
theorem dX7_sumKnown_34 : decode cX7_sumKnown 34 = .ok (.aload_n 0, 1) := by decide +kernel
theorem dX7_sumKnown_35 : decode cX7_sumKnown 35 = .ok (.getfield 18, 3) := by decide +kernel
theorem dX7_sumKnown_38 : decode cX7_sumKnown 38 = .ok (.iload 5, 2) := by decide +kernel
theorem dX7_sumKnown_40 : decode cX7_sumKnown 40 = .ok (.iaload, 1) := by decide +kernel
theorem dX7_sumKnown_41 : decode cX7_sumKnown 41 = .ok (.iload_n 2, 1) := by decide +kernel
theorem dX7_sumKnown_42 : decode cX7_sumKnown 42 = .ok (.if_icmp .gt 25, 3) := by decide +kernel
theorem dX7_sumKnown_45 : decode cX7_sumKnown 45 = .ok (.aload_n 0, 1) := by decide +kernel
theorem dX7_sumKnown_46 : decode cX7_sumKnown 46 = .ok (.iload 5, 2) := by decide +kernel
theorem dX7_sumKnown_48 : decode cX7_sumKnown 48 = .ok (.iload_n 3, 1) := by decide +kernel
theorem dX7_sumKnown_49 : decode cX7_sumKnown 49 = .ok (.invokevirtual 39, 3) := by decide +kernel
theorem dX7_sumKnown_52 : decode cX7_sumKnown 52 = .ok (.ifCond .eq 15, 3) := by decide +kernel
theorem dX7_sumKnown_55 : decode cX7_sumKnown 55 = .ok (.iload 4, 2) := by decide +kernel
theorem dX7_sumKnown_57 : decode cX7_sumKnown 57 = .ok (.aload_n 0, 1) := by decide +kernel
theorem dX7_sumKnown_58 : decode cX7_sumKnown 58 = .ok (.getfield 15, 3) := by decide +kernel
theorem dX7_sumKnown_61 : decode cX7_sumKnown 61 = .ok (.iload 5, 2) := by decide +kernel
theorem dX7_sumKnown_63 : decode cX7_sumKnown 63 = .ok (.iaload, 1) := by decide +kernel
theorem dX7_sumKnown_64 : decode cX7_sumKnown 64 = .ok (.iadd, 1) := by decide +kernel
theorem dX7_sumKnown_65 : decode cX7_sumKnown 65 = .ok (.istore 4, 2) := by decide +kernel
theorem dX7_sumKnown_67 : decode cX7_sumKnown 67 = .ok (.iinc 5 1, 3) := by decide +kernel
theorem dX7_sumKnown_70 : decode cX7_sumKnown 70 = .ok (.goto (-64), 3) := by decide +kernel
theorem dX7_sumKnown_73 : decode cX7_sumKnown 73 = .ok (.iload 4, 2) := by decide +kernel
theorem dX7_sumKnown_75 : decode cX7_sumKnown 75 = .ok (.ireturn, 1) := by decide +kernel
set_option maxRecDepth 20000 in
theorem ggX7_wasKnown_X7_hasEntry : GoodIn wsX7_wasKnown wsX7_hasEntry := goodIn_r _ [7, 8, 9, 10, 11, 12, 13, 14] (by decide +kernel) (by decide +kernel)
set_option maxRecDepth 20000 in
theorem gX7_wasKnown_X7_hasEntry : GoodIn wsX7_wasKnown (wsV RX7 35 RX7 yX7_hasEntry wsX7_hasEntry) := goodIn_app (goodIn_of _ (by decide +kernel)) ggX7_wasKnown_X7_hasEntry
theorem dX7_wasKnown_0 : decode cX7_wasKnown 0 = .ok (.aload_n 0, 1) := by decide +kernel
theorem dX7_wasKnown_1 : decode cX7_wasKnown 1 = .ok (.iload_n 1, 1) := by decide +kernel
theorem dX7_wasKnown_2 : decode cX7_wasKnown 2 = .ok (.invokevirtual 35, 3) := by decide +kernel
theorem dX7_wasKnown_5 : decode cX7_wasKnown 5 = .ok (.ifCond .eq 37, 3) := by decide +kernel
theorem dX7_wasKnown_8 : decode cX7_wasKnown 8 = .ok (.aload_n 0, 1) := by decide +kernel
theorem dX7_wasKnown_9 : decode cX7_wasKnown 9 = .ok (.getfield 21, 3) := by decide +kernel
theorem dX7_wasKnown_12 : decode cX7_wasKnown 12 = .ok (.iload_n 1, 1) := by decide +kernel
theorem dX7_wasKnown_13 : decode cX7_wasKnown 13 = .ok (.iaload, 1) := by decide +kernel
theorem dX7_wasKnown_14 : decode cX7_wasKnown 14 = .ok (.iload_n 2, 1) := by decide +kernel
theorem dX7_wasKnown_15 : decode cX7_wasKnown 15 = .ok (.if_icmp .gt 27, 3) := by decide +kernel
theorem dX7_wasKnown_18 : decode cX7_wasKnown 18 = .ok (.aload_n 0, 1) := by decide +kernel
theorem dX7_wasKnown_19 : decode cX7_wasKnown 19 = .ok (.getfield 24, 3) := by decide +kernel
theorem dX7_wasKnown_22 : decode cX7_wasKnown 22 = .ok (.iload_n 1, 1) := by decide +kernel
theorem dX7_wasKnown_23 : decode cX7_wasKnown 23 = .ok (.iaload, 1) := by decide +kernel
theorem dX7_wasKnown_24 : decode cX7_wasKnown 24 = .ok (.iconst (-1), 1) := by decide +kernel
theorem dX7_wasKnown_25 : decode cX7_wasKnown 25 = .ok (.if_icmp .eq 13, 3) := by decide +kernel
theorem dX7_wasKnown_28 : decode cX7_wasKnown 28 = .ok (.iload_n 2, 1) := by decide +kernel
theorem dX7_wasKnown_29 : decode cX7_wasKnown 29 = .ok (.aload_n 0, 1) := by decide +kernel
theorem dX7_wasKnown_30 : decode cX7_wasKnown 30 = .ok (.getfield 24, 3) := by decide +kernel
theorem dX7_wasKnown_33 : decode cX7_wasKnown 33 = .ok (.iload_n 1, 1) := by decide +kernel
theorem dX7_wasKnown_34 : decode cX7_wasKnown 34 = .ok (.iaload, 1) := by decide +kernel
theorem dX7_wasKnown_35 : decode cX7_wasKnown 35 = .ok (.if_icmp .ge 7, 3) := by decide +kernel
theorem dX7_wasKnown_38 : decode cX7_wasKnown 38 = .ok (.iconst 1, 1) := by decide +kernel
theorem dX7_wasKnown_39 : decode cX7_wasKnown 39 = .ok (.goto 4, 3) := by decide +kernel
theorem dX7_wasKnown_42 : decode cX7_wasKnown 42 = .ok (.iconst 0, 1) := by decide +kernel
theorem dX7_wasKnown_43 : decode cX7_wasKnown 43 = .ok (.ireturn, 1) := by decide +kernel
theorem dX8_init_0 : decode cX8_init 0 = .ok (.aload_n 0, 1) := by decide +kernel
theorem dX8_init_1 : decode cX8_init 1 = .ok (.invokespecial 3, 3) := by decide +kernel
theorem dX8_init_4 : decode cX8_init 4 = .ok (.aload_n 0, 1) := by decide +kernel
theorem dX8_init_5 : decode cX8_init 5 = .ok (.sipush 400, 3) := by decide +kernel
theorem dX8_init_8 : decode cX8_init 8 = .ok (.newarray .int, 2) := by decide +kernel
theorem dX8_init_10 : decode cX8_init 10 = .ok (.putfield 9, 3) := by decide +kernel
theorem dX8_init_13 : decode cX8_init 13 = .ok (.return_, 1) := by decide +kernel
theorem dX8_putNumber_0 : decode cX8_putNumber 0 = .ok (.bipush 24, 2) := by decide +kernel
theorem dX8_putNumber_2 : decode cX8_putNumber 2 = .ok (.istore_n 2, 1) := by decide +kernel
theorem dX8_putNumber_3 : decode cX8_putNumber 3 = .ok (.iload_n 2, 1) := by decide +kernel
theorem dX8_putNumber_4 : decode cX8_putNumber 4 = .ok (.ifCond .lt 47, 3) := by decide +kernel
theorem dX8_putNumber_7 : decode cX8_putNumber 7 = .ok (.aload_n 0, 1) := by decide +kernel
theorem dX8_putNumber_8 : decode cX8_putNumber 8 = .ok (.getfield 15, 3) := by decide +kernel
theorem dX8_putNumber_11 : decode cX8_putNumber 11 = .ok (.aload_n 0, 1) := by decide +kernel
theorem dX8_putNumber_12 : decode cX8_putNumber 12 = .ok (.getfield 9, 3) := by decide +kernel
theorem dX8_putNumber_15 : decode cX8_putNumber 15 = .ok (.arraylength, 1) := by decide +kernel
theorem dX8_putNumber_16 : decode cX8_putNumber 16 = .ok (.if_icmp .ge 35, 3) := by decide +kernel
theorem dX8_putNumber_19 : decode cX8_putNumber 19 = .ok (.aload_n 0, 1) := by decide +kernel
theorem dX8_putNumber_20 : decode cX8_putNumber 20 = .ok (.getfield 9, 3) := by decide +kernel
theorem dX8_putNumber_23 : decode cX8_putNumber 23 = .ok (.aload_n 0, 1) := by decide +kernel
theorem dX8_putNumber_24 : decode cX8_putNumber 24 = .ok (.getfield 15, 3) := by decide +kernel
theorem dX8_putNumber_27 : decode cX8_putNumber 27 = .ok (.iload_n 1, 1) := by decide +kernel
theorem dX8_putNumber_28 : decode cX8_putNumber 28 = .ok (.iload_n 2, 1) := by decide +kernel
theorem dX8_putNumber_29 : decode cX8_putNumber 29 = .ok (.iushr, 1) := by decide +kernel
theorem dX8_putNumber_30 : decode cX8_putNumber 30 = .ok (.sipush 255, 3) := by decide +kernel
theorem dX8_putNumber_33 : decode cX8_putNumber 33 = .ok (.iand, 1) := by decide +kernel
theorem dX8_putNumber_34 : decode cX8_putNumber 34 = .ok (.iastore, 1) := by decide +kernel
theorem dX8_putNumber_35 : decode cX8_putNumber 35 = .ok (.aload_n 0, 1) := by decide +kernel
theorem dX8_putNumber_36 : decode cX8_putNumber 36 = .ok (.dup, 1) := by decide +kernel
theorem dX8_putNumber_37 : decode cX8_putNumber 37 = .ok (.getfield 15, 3) := by decide +kernel
theorem dX8_putNumber_40 : decode cX8_putNumber 40 = .ok (.iconst 1, 1) := by decide +kernel
theorem dX8_putNumber_41 : decode cX8_putNumber 41 = .ok (.iadd, 1) := by decide +kernel
theorem dX8_putNumber_42 : decode cX8_putNumber 42 = .ok (.putfield 15, 3) := by decide +kernel
theorem dX8_putNumber_45 : decode cX8_putNumber 45 = .ok (.iinc 2 (-8), 3) := by decide +kernel
theorem dX8_putNumber_48 : decode cX8_putNumber 48 = .ok (.goto (-45), 3) := by decide +kernel
theorem dX8_putNumber_51 : decode cX8_putNumber 51 = .ok (.return_, 1) := by decide +kernel
set_option maxRecDepth 20000 in
theorem ggX8_readsRights_X4_forgetAll : GoodIn wsX8_readsRights wsX4_forgetAll := goodIn_r _ [8, 9, 10, 106, 107, 108, 109, 110, 111, 112] (by decide +kernel) (by decide +kernel)
set_option maxRecDepth 20000 in
theorem gX8_readsRights_X4_forgetAll : GoodIn wsX8_readsRights (wsV RX8 19 RX4 yX4_forgetAll wsX4_forgetAll) := goodIn_app (goodIn_of _ (by decide +kernel)) ggX8_readsRights_X4_forgetAll
set_option maxRecDepth 20000 in
theorem ggX8_readsRights_X8_readsPart : GoodIn wsX8_readsRights wsX8_readsPart := goodIn_r _ [15, 16, 17, 18, 14, 19, 1, 20, 21, 22, 23, 3, 24, 25, 26, 27, 28, 29, 30, 31, 32, 33, 34, 35, 36, 37, 38, 39, 40, 41, 42, 43, 44, 45, 46, 47, 48, 49, 50, 51, 52, 53, 54, 55, 56, 57, 58, 59, 60, 61, 62, 63, 64, 65, 66, 67, 68, 69, 70, 71, 72, 73, 74, 75, 76, 77, 78, 79, 80, 81, 82, 83, 84, 85, 86, 87, 88, 89, 90, 91, 92, 93, 94, 95, 7, 96, 9, 97, 98, 99, 100, 101, 102, 103, 104, 105, 106, 107, 108, 109, 110, 111, 112] (by decide +kernel) (by decide +kernel)
set_option maxRecDepth 20000 in
theorem gX8_readsRights_X8_readsPart : GoodIn wsX8_readsRights (wsV RX8 30 RX8 yX8_readsPart wsX8_readsPart) := goodIn_app (goodIn_of _ (by decide +kernel)) ggX8_readsRights_X8_readsPart
set_option maxRecDepth 20000 in
theorem ggX8_readsRights_X8_skipBlanks : GoodIn wsX8_readsRights wsX8_skipBlanks := goodIn_r _ [23, 1, 3, 24, 25, 26, 14, 27, 28, 102, 103, 104, 105] (by decide +kernel) (by decide +kernel)
set_option maxRecDepth 20000 in
theorem gX8_readsRights_X8_skipBlanks : GoodIn wsX8_readsRights (wsV RX8 34 RX8 yX8_skipBlanks wsX8_skipBlanks) := goodIn_app (goodIn_of _ (by decide +kernel)) ggX8_readsRights_X8_skipBlanks
set_option maxRecDepth 20000 in
theorem ggX8_readsRights_X8_byteAt : GoodIn wsX8_readsRights wsX8_byteAt := goodIn_r _ [27, 3, 28, 102, 103, 104, 105] (by decide +kernel) (by decide +kernel)
set_option maxRecDepth 20000 in
theorem gX8_readsRights_X8_byteAt : GoodIn wsX8_readsRights (wsV RX8 37 RX8 yX8_byteAt wsX8_byteAt) := goodIn_app (goodIn_of _ (by decide +kernel)) ggX8_readsRights_X8_byteAt
theorem dX8_readsRights_0 : decode cX8_readsRights 0 = .ok (.aload_n 1, 1) := by decide +kernel
theorem dX8_readsRights_1 : decode cX8_readsRights 1 = .ok (.invokevirtual 19, 3) := by decide +kernel
theorem dX8_readsRights_4 : decode cX8_readsRights 4 = .ok (.aload_n 0, 1) := by decide +kernel
theorem dX8_readsRights_5 : decode cX8_readsRights 5 = .ok (.iconst 0, 1) := by decide +kernel
theorem dX8_readsRights_6 : decode cX8_readsRights 6 = .ok (.putfield 24, 3) := by decide +kernel
theorem dX8_readsRights_9 : decode cX8_readsRights 9 = .ok (.aload_n 0, 1) := by decide +kernel
theorem dX8_readsRights_10 : decode cX8_readsRights 10 = .ok (.iconst 1, 1) := by decide +kernel
theorem dX8_readsRights_11 : decode cX8_readsRights 11 = .ok (.putfield 27, 3) := by decide +kernel
theorem dX8_readsRights_14 : decode cX8_readsRights 14 = .ok (.aload_n 0, 1) := by decide +kernel
theorem dX8_readsRights_15 : decode cX8_readsRights 15 = .ok (.getfield 27, 3) := by decide +kernel
theorem dX8_readsRights_18 : decode cX8_readsRights 18 = .ok (.sipush 400, 3) := by decide +kernel
theorem dX8_readsRights_21 : decode cX8_readsRights 21 = .ok (.if_icmp .gt 69, 3) := by decide +kernel
theorem dX8_readsRights_24 : decode cX8_readsRights 24 = .ok (.aload_n 0, 1) := by decide +kernel
theorem dX8_readsRights_25 : decode cX8_readsRights 25 = .ok (.aload_n 1, 1) := by decide +kernel
theorem dX8_readsRights_26 : decode cX8_readsRights 26 = .ok (.iload_n 2, 1) := by decide +kernel
theorem dX8_readsRights_27 : decode cX8_readsRights 27 = .ok (.invokevirtual 30, 3) := by decide +kernel
theorem dX8_readsRights_30 : decode cX8_readsRights 30 = .ok (.ifCond .ne 5, 3) := by decide +kernel
theorem dX8_readsRights_33 : decode cX8_readsRights 33 = .ok (.iconst 0, 1) := by decide +kernel
theorem dX8_readsRights_34 : decode cX8_readsRights 34 = .ok (.ireturn, 1) := by decide +kernel
theorem dX8_readsRights_35 : decode cX8_readsRights 35 = .ok (.aload_n 0, 1) := by decide +kernel
theorem dX8_readsRights_36 : decode cX8_readsRights 36 = .ok (.invokevirtual 34, 3) := by decide +kernel
theorem dX8_readsRights_39 : decode cX8_readsRights 39 = .ok (.aload_n 0, 1) := by decide +kernel
theorem dX8_readsRights_40 : decode cX8_readsRights 40 = .ok (.getfield 24, 3) := by decide +kernel
theorem dX8_readsRights_43 : decode cX8_readsRights 43 = .ok (.aload_n 0, 1) := by decide +kernel
theorem dX8_readsRights_44 : decode cX8_readsRights 44 = .ok (.getfield 15, 3) := by decide +kernel
theorem dX8_readsRights_47 : decode cX8_readsRights 47 = .ok (.if_icmp .lt 5, 3) := by decide +kernel
theorem dX8_readsRights_50 : decode cX8_readsRights 50 = .ok (.iconst 1, 1) := by decide +kernel
theorem dX8_readsRights_51 : decode cX8_readsRights 51 = .ok (.ireturn, 1) := by decide +kernel
theorem dX8_readsRights_52 : decode cX8_readsRights 52 = .ok (.aload_n 0, 1) := by decide +kernel
theorem dX8_readsRights_53 : decode cX8_readsRights 53 = .ok (.aload_n 0, 1) := by decide +kernel
theorem dX8_readsRights_54 : decode cX8_readsRights 54 = .ok (.getfield 24, 3) := by decide +kernel
theorem dX8_readsRights_57 : decode cX8_readsRights 57 = .ok (.invokevirtual 37, 3) := by decide +kernel
theorem dX8_readsRights_60 : decode cX8_readsRights 60 = .ok (.bipush 59, 2) := by decide +kernel
theorem dX8_readsRights_62 : decode cX8_readsRights 62 = .ok (.if_icmp .eq 5, 3) := by decide +kernel
theorem dX8_readsRights_65 : decode cX8_readsRights 65 = .ok (.iconst 0, 1) := by decide +kernel
theorem dX8_readsRights_66 : decode cX8_readsRights 66 = .ok (.ireturn, 1) := by decide +kernel
theorem dX8_readsRights_67 : decode cX8_readsRights 67 = .ok (.aload_n 0, 1) := by decide +kernel
theorem dX8_readsRights_68 : decode cX8_readsRights 68 = .ok (.dup, 1) := by decide +kernel
theorem dX8_readsRights_69 : decode cX8_readsRights 69 = .ok (.getfield 24, 3) := by decide +kernel
theorem dX8_readsRights_72 : decode cX8_readsRights 72 = .ok (.iconst 1, 1) := by decide +kernel
theorem dX8_readsRights_73 : decode cX8_readsRights 73 = .ok (.iadd, 1) := by decide +kernel
theorem dX8_readsRights_74 : decode cX8_readsRights 74 = .ok (.putfield 24, 3) := by decide +kernel
theorem dX8_readsRights_77 : decode cX8_readsRights 77 = .ok (.aload_n 0, 1) := by decide +kernel
theorem dX8_readsRights_78 : decode cX8_readsRights 78 = .ok (.dup, 1) := by decide +kernel
theorem dX8_readsRights_79 : decode cX8_readsRights 79 = .ok (.getfield 27, 3) := by decide +kernel
theorem dX8_readsRights_82 : decode cX8_readsRights 82 = .ok (.iconst 1, 1) := by decide +kernel
theorem dX8_readsRights_83 : decode cX8_readsRights 83 = .ok (.iadd, 1) := by decide +kernel
theorem dX8_readsRights_84 : decode cX8_readsRights 84 = .ok (.putfield 27, 3) := by decide +kernel
theorem dX8_readsRights_87 : decode cX8_readsRights 87 = .ok (.goto (-73), 3) := by decide +kernel
theorem dX8_readsRights_90 : decode cX8_readsRights 90 = .ok (.iconst 0, 1) := by decide +kernel
theorem dX8_readsRights_91 : decode cX8_readsRights 91 = .ok (.ireturn, 1) := by decide +kernel
set_option maxRecDepth 20000 in
theorem ggX8_readsPart_X8_takesWord : GoodIn wsX8_readsPart wsX8_takesWord := goodIn_r _ [5, 6, 7, 8, 9, 4, 10, 11, 12, 13, 14, 15, 16, 17, 18, 19, 20, 21, 22, 23, 24, 25, 26, 27, 28, 29, 30, 31, 32, 33, 34, 35, 36, 37, 38, 39, 40, 41, 42, 43, 44, 45, 46, 47, 48, 49, 50, 51, 52, 53, 54, 55, 56, 57, 58, 59, 60, 61, 62, 63, 64, 65, 66, 67, 68, 92, 93, 94, 95] (by decide +kernel) (by decide +kernel)
set_option maxRecDepth 20000 in
theorem gX8_readsPart_X8_takesWord : GoodIn wsX8_readsPart (wsV RX8 43 RX8 yX8_takesWord wsX8_takesWord) := goodIn_app (goodIn_of _ (by decide +kernel)) ggX8_readsPart_X8_takesWord
set_option maxRecDepth 20000 in
theorem ggX8_readsPart_X8_readsRest : GoodIn wsX8_readsPart wsX8_readsRest := goodIn_r _ [72, 73, 74, 75, 4, 76, 6, 7, 8, 9, 10, 11, 12, 13, 14, 15, 16, 66, 67, 68, 96, 97, 98, 99, 100, 101, 102, 92, 93, 94, 95] (by decide +kernel) (by decide +kernel)
set_option maxRecDepth 20000 in
theorem gX8_readsPart_X8_readsRest : GoodIn wsX8_readsPart (wsV RX8 47 RX8 yX8_readsRest wsX8_readsRest) := goodIn_app (goodIn_of _ (by decide +kernel)) ggX8_readsPart_X8_readsRest
set_option maxRecDepth 20000 in
theorem ggX8_readsPart_X8_readsRight : GoodIn wsX8_readsPart wsX8_readsRight := goodIn_r _ [80, 73, 74, 75, 4, 76, 6, 7, 8, 9, 10, 11, 12, 13, 14, 15, 16, 66, 67, 68, 1, 2, 3, 5, 17, 18, 19, 20, 21, 22, 23, 24, 25, 26, 27, 28, 29, 30, 31, 32, 33, 34, 35, 36, 37, 38, 39, 40, 41, 42, 43, 44, 45, 46, 47, 48, 49, 50, 51, 52, 53, 54, 55, 56, 57, 58, 59, 60, 61, 62, 63, 64, 65, 81, 82, 83, 84, 85, 86, 87, 88, 89, 90, 91, 92, 93, 94, 95, 96, 97, 98, 99, 100, 101, 102] (by decide +kernel) (by decide +kernel)
set_option maxRecDepth 20000 in
theorem gX8_readsPart_X8_readsRight : GoodIn wsX8_readsPart (wsV RX8 53 RX8 yX8_readsRight wsX8_readsRight) := goodIn_app (goodIn_of _ (by decide +kernel)) ggX8_readsPart_X8_readsRight
theorem dX8_readsPart_0 : decode cX8_readsPart 0 = .ok (.aload_n 0, 1) := by decide +kernel
theorem dX8_readsPart_1 : decode cX8_readsPart 1 = .ok (.ldc 41, 2) := by decide +kernel
theorem dX8_readsPart_3 : decode cX8_readsPart 3 = .ok (.invokevirtual 43, 3) := by decide +kernel
theorem dX8_readsPart_6 : decode cX8_readsPart 6 = .ok (.ifCond .eq 9, 3) := by decide +kernel
theorem dX8_readsPart_9 : decode cX8_readsPart 9 = .ok (.aload_n 0, 1) := by decide +kernel
theorem dX8_readsPart_10 : decode cX8_readsPart 10 = .ok (.aload_n 1, 1) := by decide +kernel
theorem dX8_readsPart_11 : decode cX8_readsPart 11 = .ok (.invokevirtual 47, 3) := by decide +kernel
theorem dX8_readsPart_14 : decode cX8_readsPart 14 = .ok (.ireturn, 1) := by decide +kernel
theorem dX8_readsPart_15 : decode cX8_readsPart 15 = .ok (.aload_n 0, 1) := by decide +kernel
theorem dX8_readsPart_16 : decode cX8_readsPart 16 = .ok (.ldc 51, 2) := by decide +kernel
theorem dX8_readsPart_18 : decode cX8_readsPart 18 = .ok (.invokevirtual 43, 3) := by decide +kernel
theorem dX8_readsPart_21 : decode cX8_readsPart 21 = .ok (.ifCond .eq 16, 3) := by decide +kernel
theorem dX8_readsPart_24 : decode cX8_readsPart 24 = .ok (.aload_n 0, 1) := by decide +kernel
theorem dX8_readsPart_25 : decode cX8_readsPart 25 = .ok (.aload_n 1, 1) := by decide +kernel
theorem dX8_readsPart_26 : decode cX8_readsPart 26 = .ok (.iload_n 2, 1) := by decide +kernel
theorem dX8_readsPart_27 : decode cX8_readsPart 27 = .ok (.invokevirtual 53, 3) := by decide +kernel
theorem dX8_readsPart_30 : decode cX8_readsPart 30 = .ok (.ifCond .eq 7, 3) := by decide +kernel
theorem dX8_readsPart_33 : decode cX8_readsPart 33 = .ok (.iconst 1, 1) := by decide +kernel
theorem dX8_readsPart_34 : decode cX8_readsPart 34 = .ok (.goto 4, 3) := by decide +kernel
theorem dX8_readsPart_37 : decode cX8_readsPart 37 = .ok (.iconst 0, 1) := by decide +kernel
theorem dX8_readsPart_38 : decode cX8_readsPart 38 = .ok (.ireturn, 1) := by decide +kernel
set_option maxRecDepth 20000 in
theorem ggX8_readsRest_X8_takenNumber : GoodIn wsX8_readsRest wsX8_takenNumber := goodIn_r _ [5, 6, 7, 8, 9, 4, 10, 11, 12, 13, 14, 15, 16, 17, 18, 19, 27, 28, 29, 30] (by decide +kernel) (by decide +kernel)
set_option maxRecDepth 20000 in
theorem gX8_readsRest_X8_takenNumber : GoodIn wsX8_readsRest (wsV RX8 56 RX8 yX8_takenNumber wsX8_takenNumber) := goodIn_app (goodIn_of _ (by decide +kernel)) ggX8_readsRest_X8_takenNumber
theorem dX8_readsRest_0 : decode cX8_readsRest 0 = .ok (.aload_n 0, 1) := by decide +kernel
theorem dX8_readsRest_1 : decode cX8_readsRest 1 = .ok (.iconst 0, 1) := by decide +kernel
theorem dX8_readsRest_2 : decode cX8_readsRest 2 = .ok (.bipush 20, 2) := by decide +kernel
theorem dX8_readsRest_4 : decode cX8_readsRest 4 = .ok (.invokevirtual 56, 3) := by decide +kernel
theorem dX8_readsRest_7 : decode cX8_readsRest 7 = .ok (.istore_n 2, 1) := by decide +kernel
theorem dX8_readsRest_8 : decode cX8_readsRest 8 = .ok (.iload_n 2, 1) := by decide +kernel
theorem dX8_readsRest_9 : decode cX8_readsRest 9 = .ok (.iconst (-1), 1) := by decide +kernel
theorem dX8_readsRest_10 : decode cX8_readsRest 10 = .ok (.if_icmp .ne 5, 3) := by decide +kernel
theorem dX8_readsRest_13 : decode cX8_readsRest 13 = .ok (.iconst 0, 1) := by decide +kernel
theorem dX8_readsRest_14 : decode cX8_readsRest 14 = .ok (.ireturn, 1) := by decide +kernel
theorem dX8_readsRest_15 : decode cX8_readsRest 15 = .ok (.aload_n 1, 1) := by decide +kernel
theorem dX8_readsRest_16 : decode cX8_readsRest 16 = .ok (.iload_n 2, 1) := by decide +kernel
theorem dX8_readsRest_17 : decode cX8_readsRest 17 = .ok (.putfield 60, 3) := by decide +kernel
theorem dX8_readsRest_20 : decode cX8_readsRest 20 = .ok (.iconst 1, 1) := by decide +kernel
theorem dX8_readsRest_21 : decode cX8_readsRest 21 = .ok (.ireturn, 1) := by decide +kernel
set_option maxRecDepth 20000 in
theorem ggX8_readsRight_X8_takenNumber : GoodIn wsX8_readsRight wsX8_takenNumber := goodIn_r _ [5, 6, 7, 8, 9, 4, 10, 11, 12, 13, 14, 15, 16, 17, 18, 19, 84, 85, 86, 87] (by decide +kernel) (by decide +kernel)
set_option maxRecDepth 20000 in
theorem gX8_readsRight_X8_takenNumber : GoodIn wsX8_readsRight (wsV RX8 56 RX8 yX8_takenNumber wsX8_takenNumber) := goodIn_app (goodIn_of _ (by decide +kernel)) ggX8_readsRight_X8_takenNumber
set_option maxRecDepth 20000 in
theorem ggX8_readsRight_X8_takesWord : GoodIn wsX8_readsRight wsX8_takesWord := goodIn_r _ [23, 6, 7, 8, 9, 4, 10, 11, 12, 13, 14, 15, 16, 24, 25, 26, 27, 28, 29, 30, 31, 32, 33, 34, 35, 36, 37, 38, 39, 40, 41, 42, 43, 44, 45, 46, 47, 48, 49, 50, 51, 52, 53, 54, 55, 56, 57, 58, 59, 60, 61, 62, 63, 64, 65, 66, 67, 68, 69, 70, 71, 72, 17, 18, 19, 84, 85, 86, 87] (by decide +kernel) (by decide +kernel)
set_option maxRecDepth 20000 in
theorem gX8_readsRight_X8_takesWord : GoodIn wsX8_readsRight (wsV RX8 43 RX8 yX8_takesWord wsX8_takesWord) := goodIn_app (goodIn_of _ (by decide +kernel)) ggX8_readsRight_X8_takesWord
set_option maxRecDepth 20000 in
theorem ggX8_readsRight_X4_addPart : GoodIn wsX8_readsRight wsX4_addPart := goodIn_r _ [77, 78, 79, 80, 81, 82, 83, 88, 89, 90, 91, 92, 93, 94] (by decide +kernel) (by decide +kernel)
set_option maxRecDepth 20000 in
theorem gX8_readsRight_X4_addPart : GoodIn wsX8_readsRight (wsV RX8 70 RX4 yX4_addPart wsX4_addPart) := goodIn_app (goodIn_of _ (by decide +kernel)) ggX8_readsRight_X4_addPart
theorem dX8_readsRight_0 : decode cX8_readsRight 0 = .ok (.aload_n 0, 1) := by decide +kernel
theorem dX8_readsRight_1 : decode cX8_readsRight 1 = .ok (.iconst 0, 1) := by decide +kernel
theorem dX8_readsRight_2 : decode cX8_readsRight 2 = .ok (.iload_n 2, 1) := by decide +kernel
theorem dX8_readsRight_3 : decode cX8_readsRight 3 = .ok (.iconst 1, 1) := by decide +kernel
theorem dX8_readsRight_4 : decode cX8_readsRight 4 = .ok (.isub, 1) := by decide +kernel
theorem dX8_readsRight_5 : decode cX8_readsRight 5 = .ok (.invokevirtual 56, 3) := by decide +kernel
theorem dX8_readsRight_8 : decode cX8_readsRight 8 = .ok (.istore_n 3, 1) := by decide +kernel
theorem dX8_readsRight_9 : decode cX8_readsRight 9 = .ok (.iload_n 3, 1) := by decide +kernel
theorem dX8_readsRight_10 : decode cX8_readsRight 10 = .ok (.iconst (-1), 1) := by decide +kernel
theorem dX8_readsRight_11 : decode cX8_readsRight 11 = .ok (.if_icmp .eq 12, 3) := by decide +kernel
theorem dX8_readsRight_14 : decode cX8_readsRight 14 = .ok (.aload_n 0, 1) := by decide +kernel
theorem dX8_readsRight_15 : decode cX8_readsRight 15 = .ok (.ldc 62, 2) := by decide +kernel
theorem dX8_readsRight_17 : decode cX8_readsRight 17 = .ok (.invokevirtual 43, 3) := by decide +kernel
theorem dX8_readsRight_20 : decode cX8_readsRight 20 = .ok (.ifCond .ne 5, 3) := by decide +kernel
theorem dX8_readsRight_23 : decode cX8_readsRight 23 = .ok (.iconst 0, 1) := by decide +kernel
theorem dX8_readsRight_24 : decode cX8_readsRight 24 = .ok (.ireturn, 1) := by decide +kernel
theorem dX8_readsRight_25 : decode cX8_readsRight 25 = .ok (.aload_n 0, 1) := by decide +kernel
theorem dX8_readsRight_26 : decode cX8_readsRight 26 = .ok (.iconst 0, 1) := by decide +kernel
theorem dX8_readsRight_27 : decode cX8_readsRight 27 = .ok (.bipush 7, 2) := by decide +kernel
theorem dX8_readsRight_29 : decode cX8_readsRight 29 = .ok (.invokevirtual 56, 3) := by decide +kernel
theorem dX8_readsRight_32 : decode cX8_readsRight 32 = .ok (.istore 4, 2) := by decide +kernel
theorem dX8_readsRight_34 : decode cX8_readsRight 34 = .ok (.iload 4, 2) := by decide +kernel
theorem dX8_readsRight_36 : decode cX8_readsRight 36 = .ok (.iconst (-1), 1) := by decide +kernel
theorem dX8_readsRight_37 : decode cX8_readsRight 37 = .ok (.if_icmp .eq 12, 3) := by decide +kernel
theorem dX8_readsRight_40 : decode cX8_readsRight 40 = .ok (.aload_n 0, 1) := by decide +kernel
theorem dX8_readsRight_41 : decode cX8_readsRight 41 = .ok (.ldc 64, 2) := by decide +kernel
theorem dX8_readsRight_43 : decode cX8_readsRight 43 = .ok (.invokevirtual 43, 3) := by decide +kernel
theorem dX8_readsRight_46 : decode cX8_readsRight 46 = .ok (.ifCond .ne 5, 3) := by decide +kernel
theorem dX8_readsRight_49 : decode cX8_readsRight 49 = .ok (.iconst 0, 1) := by decide +kernel
theorem dX8_readsRight_50 : decode cX8_readsRight 50 = .ok (.ireturn, 1) := by decide +kernel
theorem dX8_readsRight_51 : decode cX8_readsRight 51 = .ok (.aload_n 0, 1) := by decide +kernel
theorem dX8_readsRight_52 : decode cX8_readsRight 52 = .ok (.iconst 0, 1) := by decide +kernel
theorem dX8_readsRight_53 : decode cX8_readsRight 53 = .ok (.bipush 99, 2) := by decide +kernel
theorem dX8_readsRight_55 : decode cX8_readsRight 55 = .ok (.invokevirtual 56, 3) := by decide +kernel
theorem dX8_readsRight_58 : decode cX8_readsRight 58 = .ok (.istore 5, 2) := by decide +kernel
theorem dX8_readsRight_60 : decode cX8_readsRight 60 = .ok (.iload 5, 2) := by decide +kernel
theorem dX8_readsRight_62 : decode cX8_readsRight 62 = .ok (.iconst (-1), 1) := by decide +kernel
theorem dX8_readsRight_63 : decode cX8_readsRight 63 = .ok (.if_icmp .eq 12, 3) := by decide +kernel
theorem dX8_readsRight_66 : decode cX8_readsRight 66 = .ok (.aload_n 0, 1) := by decide +kernel
theorem dX8_readsRight_67 : decode cX8_readsRight 67 = .ok (.ldc 66, 2) := by decide +kernel
theorem dX8_readsRight_69 : decode cX8_readsRight 69 = .ok (.invokevirtual 43, 3) := by decide +kernel
theorem dX8_readsRight_72 : decode cX8_readsRight 72 = .ok (.ifCond .ne 5, 3) := by decide +kernel
theorem dX8_readsRight_75 : decode cX8_readsRight 75 = .ok (.iconst 0, 1) := by decide +kernel
theorem dX8_readsRight_76 : decode cX8_readsRight 76 = .ok (.ireturn, 1) := by decide +kernel
theorem dX8_readsRight_77 : decode cX8_readsRight 77 = .ok (.aload_n 0, 1) := by decide +kernel
theorem dX8_readsRight_78 : decode cX8_readsRight 78 = .ok (.iload 5, 2) := by decide +kernel
theorem dX8_readsRight_80 : decode cX8_readsRight 80 = .ok (.bipush 99, 2) := by decide +kernel
theorem dX8_readsRight_82 : decode cX8_readsRight 82 = .ok (.invokevirtual 56, 3) := by decide +kernel
theorem dX8_readsRight_85 : decode cX8_readsRight 85 = .ok (.istore 6, 2) := by decide +kernel
theorem dX8_readsRight_87 : decode cX8_readsRight 87 = .ok (.iload 6, 2) := by decide +kernel
theorem dX8_readsRight_89 : decode cX8_readsRight 89 = .ok (.iconst (-1), 1) := by decide +kernel
theorem dX8_readsRight_90 : decode cX8_readsRight 90 = .ok (.if_icmp .eq 12, 3) := by decide +kernel
theorem dX8_readsRight_93 : decode cX8_readsRight 93 = .ok (.aload_n 0, 1) := by decide +kernel
theorem dX8_readsRight_94 : decode cX8_readsRight 94 = .ok (.ldc 68, 2) := by decide +kernel
theorem dX8_readsRight_96 : decode cX8_readsRight 96 = .ok (.invokevirtual 43, 3) := by decide +kernel
theorem dX8_readsRight_99 : decode cX8_readsRight 99 = .ok (.ifCond .ne 5, 3) := by decide +kernel
theorem dX8_readsRight_102 : decode cX8_readsRight 102 = .ok (.iconst 0, 1) := by decide +kernel
theorem dX8_readsRight_103 : decode cX8_readsRight 103 = .ok (.ireturn, 1) := by decide +kernel
theorem dX8_readsRight_104 : decode cX8_readsRight 104 = .ok (.aload_n 0, 1) := by decide +kernel
theorem dX8_readsRight_105 : decode cX8_readsRight 105 = .ok (.iconst 0, 1) := by decide +kernel
theorem dX8_readsRight_106 : decode cX8_readsRight 106 = .ok (.bipush 100, 2) := by decide +kernel
theorem dX8_readsRight_108 : decode cX8_readsRight 108 = .ok (.invokevirtual 56, 3) := by decide +kernel
theorem dX8_readsRight_111 : decode cX8_readsRight 111 = .ok (.istore 7, 2) := by decide +kernel
theorem dX8_readsRight_113 : decode cX8_readsRight 113 = .ok (.iload 7, 2) := by decide +kernel
theorem dX8_readsRight_115 : decode cX8_readsRight 115 = .ok (.iconst (-1), 1) := by decide +kernel
theorem dX8_readsRight_116 : decode cX8_readsRight 116 = .ok (.if_icmp .ne 5, 3) := by decide +kernel
theorem dX8_readsRight_119 : decode cX8_readsRight 119 = .ok (.iconst 0, 1) := by decide +kernel
theorem dX8_readsRight_120 : decode cX8_readsRight 120 = .ok (.ireturn, 1) := by decide +kernel
theorem dX8_readsRight_121 : decode cX8_readsRight 121 = .ok (.aload_n 1, 1) := by decide +kernel
theorem dX8_readsRight_122 : decode cX8_readsRight 122 = .ok (.iload_n 3, 1) := by decide +kernel
theorem dX8_readsRight_123 : decode cX8_readsRight 123 = .ok (.iload 4, 2) := by decide +kernel
theorem dX8_readsRight_125 : decode cX8_readsRight 125 = .ok (.iload 5, 2) := by decide +kernel
theorem dX8_readsRight_127 : decode cX8_readsRight 127 = .ok (.iload 6, 2) := by decide +kernel
theorem dX8_readsRight_129 : decode cX8_readsRight 129 = .ok (.iload 7, 2) := by decide +kernel
theorem dX8_readsRight_131 : decode cX8_readsRight 131 = .ok (.invokevirtual 70, 3) := by decide +kernel
theorem dX8_readsRight_134 : decode cX8_readsRight 134 = .ok (.iconst 1, 1) := by decide +kernel
theorem dX8_readsRight_135 : decode cX8_readsRight 135 = .ok (.ireturn, 1) := by decide +kernel
theorem dX8_byteAt_0 : decode cX8_byteAt 0 = .ok (.iload_n 1, 1) := by decide +kernel
theorem dX8_byteAt_1 : decode cX8_byteAt 1 = .ok (.ifCond .lt 20, 3) := by decide +kernel
theorem dX8_byteAt_4 : decode cX8_byteAt 4 = .ok (.iload_n 1, 1) := by decide +kernel
theorem dX8_byteAt_5 : decode cX8_byteAt 5 = .ok (.aload_n 0, 1) := by decide +kernel
theorem dX8_byteAt_6 : decode cX8_byteAt 6 = .ok (.getfield 15, 3) := by decide +kernel
theorem dX8_byteAt_9 : decode cX8_byteAt 9 = .ok (.if_icmp .ge 12, 3) := by decide +kernel
theorem dX8_byteAt_12 : decode cX8_byteAt 12 = .ok (.iload_n 1, 1) := by decide +kernel
theorem dX8_byteAt_13 : decode cX8_byteAt 13 = .ok (.aload_n 0, 1) := by decide +kernel
theorem dX8_byteAt_14 : decode cX8_byteAt 14 = .ok (.getfield 9, 3) := by decide +kernel
theorem dX8_byteAt_17 : decode cX8_byteAt 17 = .ok (.arraylength, 1) := by decide +kernel
theorem dX8_byteAt_18 : decode cX8_byteAt 18 = .ok (.if_icmp .lt 7, 3) := by decide +kernel
theorem dX8_byteAt_21 : decode cX8_byteAt 21 = .ok (.iconst (-1), 1) := by decide +kernel
theorem dX8_byteAt_22 : decode cX8_byteAt 22 = .ok (.goto 9, 3) := by decide +kernel
theorem dX8_byteAt_25 : decode cX8_byteAt 25 = .ok (.aload_n 0, 1) := by decide +kernel
theorem dX8_byteAt_26 : decode cX8_byteAt 26 = .ok (.getfield 9, 3) := by decide +kernel
theorem dX8_byteAt_29 : decode cX8_byteAt 29 = .ok (.iload_n 1, 1) := by decide +kernel
theorem dX8_byteAt_30 : decode cX8_byteAt 30 = .ok (.iaload, 1) := by decide +kernel
theorem dX8_byteAt_31 : decode cX8_byteAt 31 = .ok (.ireturn, 1) := by decide +kernel
set_option maxRecDepth 20000 in
theorem ggX8_skipBlanks_X8_byteAt : GoodIn wsX8_skipBlanks wsX8_byteAt := goodIn_r _ [7, 2, 8, 9, 10, 11, 12] (by decide +kernel) (by decide +kernel)
set_option maxRecDepth 20000 in
theorem gX8_skipBlanks_X8_byteAt : GoodIn wsX8_skipBlanks (wsV RX8 37 RX8 yX8_byteAt wsX8_byteAt) := goodIn_app (goodIn_of _ (by decide +kernel)) ggX8_skipBlanks_X8_byteAt
theorem dX8_skipBlanks_0 : decode cX8_skipBlanks 0 = .ok (.aload_n 0, 1) := by decide +kernel
theorem dX8_skipBlanks_1 : decode cX8_skipBlanks 1 = .ok (.getfield 24, 3) := by decide +kernel
theorem dX8_skipBlanks_4 : decode cX8_skipBlanks 4 = .ok (.aload_n 0, 1) := by decide +kernel
theorem dX8_skipBlanks_5 : decode cX8_skipBlanks 5 = .ok (.getfield 15, 3) := by decide +kernel
theorem dX8_skipBlanks_8 : decode cX8_skipBlanks 8 = .ok (.if_icmp .ge 29, 3) := by decide +kernel
theorem dX8_skipBlanks_11 : decode cX8_skipBlanks 11 = .ok (.aload_n 0, 1) := by decide +kernel
theorem dX8_skipBlanks_12 : decode cX8_skipBlanks 12 = .ok (.aload_n 0, 1) := by decide +kernel
theorem dX8_skipBlanks_13 : decode cX8_skipBlanks 13 = .ok (.getfield 24, 3) := by decide +kernel
theorem dX8_skipBlanks_16 : decode cX8_skipBlanks 16 = .ok (.invokevirtual 37, 3) := by decide +kernel
theorem dX8_skipBlanks_19 : decode cX8_skipBlanks 19 = .ok (.bipush 32, 2) := by decide +kernel
theorem dX8_skipBlanks_21 : decode cX8_skipBlanks 21 = .ok (.if_icmp .ne 16, 3) := by decide +kernel
theorem dX8_skipBlanks_24 : decode cX8_skipBlanks 24 = .ok (.aload_n 0, 1) := by decide +kernel
theorem dX8_skipBlanks_25 : decode cX8_skipBlanks 25 = .ok (.dup, 1) := by decide +kernel
theorem dX8_skipBlanks_26 : decode cX8_skipBlanks 26 = .ok (.getfield 24, 3) := by decide +kernel
theorem dX8_skipBlanks_29 : decode cX8_skipBlanks 29 = .ok (.iconst 1, 1) := by decide +kernel
theorem dX8_skipBlanks_30 : decode cX8_skipBlanks 30 = .ok (.iadd, 1) := by decide +kernel
theorem dX8_skipBlanks_31 : decode cX8_skipBlanks 31 = .ok (.putfield 24, 3) := by decide +kernel
theorem dX8_skipBlanks_34 : decode cX8_skipBlanks 34 = .ok (.goto (-34), 3) := by decide +kernel
theorem dX8_skipBlanks_37 : decode cX8_skipBlanks 37 = .ok (.return_, 1) := by decide +kernel
set_option maxRecDepth 20000 in
theorem ggX8_takesWord_X8_skipBlanks : GoodIn wsX8_takesWord wsX8_skipBlanks := goodIn_r _ [6, 1, 7, 8, 9, 10, 5, 11, 12, 65, 66, 67, 68] (by decide +kernel) (by decide +kernel)
set_option maxRecDepth 20000 in
theorem gX8_takesWord_X8_skipBlanks : GoodIn wsX8_takesWord (wsV RX8 34 RX8 yX8_skipBlanks wsX8_skipBlanks) := goodIn_app (goodIn_of _ (by decide +kernel)) ggX8_takesWord_X8_skipBlanks
set_option maxRecDepth 20000 in
theorem ggX8_takesWord_J0_length_8abf5 : GoodIn wsX8_takesWord wsJ0_length_8abf5 := goodIn_r _ [17, 18, 19, 20, 21, 16, 22, 23, 24] (by decide +kernel) (by decide +kernel)
set_option maxRecDepth 20000 in
theorem gX8_takesWord_J0_length_8abf5 : GoodIn wsX8_takesWord (wsV RX8 74 RJ0 yJ0_length_8abf5 wsJ0_length_8abf5) := goodIn_app (goodIn_of _ (by decide +kernel)) ggX8_takesWord_J0_length_8abf5
set_option maxRecDepth 20000 in
theorem ggX8_takesWord_X8_byteAt : GoodIn wsX8_takesWord wsX8_byteAt := goodIn_r _ [11, 7, 12, 65, 66, 67, 68] (by decide +kernel) (by decide +kernel)
set_option maxRecDepth 20000 in
theorem gX8_takesWord_X8_byteAt : GoodIn wsX8_takesWord (wsV RX8 37 RX8 yX8_byteAt wsX8_byteAt) := goodIn_app (goodIn_of _ (by decide +kernel)) ggX8_takesWord_X8_byteAt
set_option maxRecDepth 20000 in
theorem ggX8_takesWord_J0_charAt_5068e : GoodIn wsX8_takesWord wsJ0_charAt_5068e := goodIn_r _ [28, 18, 29, 30, 31, 16, 32, 23, 24, 33, 34, 35, 36, 37, 38, 39, 40, 41, 42, 43, 44, 45, 46, 47, 48, 49, 50, 51, 52, 53, 54, 55, 56, 57, 58, 59, 60, 61] (by decide +kernel) (by decide +kernel)
set_option maxRecDepth 20000 in
theorem gX8_takesWord_J0_charAt_5068e : GoodIn wsX8_takesWord (wsV RX8 79 RJ0 yJ0_charAt_5068e wsJ0_charAt_5068e) := goodIn_app (goodIn_of _ (by decide +kernel)) ggX8_takesWord_J0_charAt_5068e
set_option maxRecDepth 20000 in
theorem ggX8_takesWord_X9_isWithin : GoodIn wsX8_takesWord wsX9_isWithin := goodIn_r _ [64] (by decide +kernel) (by decide +kernel)
set_option maxRecDepth 20000 in
theorem gX8_takesWord_X9_isWithin_n83 : GoodIn wsX8_takesWord (wsX9_isWithin) := ggX8_takesWord_X9_isWithin
theorem dX8_takesWord_0 : decode cX8_takesWord 0 = .ok (.aload_n 0, 1) := by decide +kernel
theorem dX8_takesWord_1 : decode cX8_takesWord 1 = .ok (.invokevirtual 34, 3) := by decide +kernel
theorem dX8_takesWord_4 : decode cX8_takesWord 4 = .ok (.aload_n 1, 1) := by decide +kernel
theorem dX8_takesWord_5 : decode cX8_takesWord 5 = .ok (.invokevirtual 74, 3) := by decide +kernel
theorem dX8_takesWord_8 : decode cX8_takesWord 8 = .ok (.istore_n 2, 1) := by decide +kernel
theorem dX8_takesWord_9 : decode cX8_takesWord 9 = .ok (.iconst 0, 1) := by decide +kernel
theorem dX8_takesWord_10 : decode cX8_takesWord 10 = .ok (.istore_n 3, 1) := by decide +kernel
theorem dX8_takesWord_11 : decode cX8_takesWord 11 = .ok (.iload_n 3, 1) := by decide +kernel
theorem dX8_takesWord_12 : decode cX8_takesWord 12 = .ok (.iload_n 2, 1) := by decide +kernel
theorem dX8_takesWord_13 : decode cX8_takesWord 13 = .ok (.if_icmp .ge 29, 3) := by decide +kernel
theorem dX8_takesWord_16 : decode cX8_takesWord 16 = .ok (.aload_n 0, 1) := by decide +kernel
theorem dX8_takesWord_17 : decode cX8_takesWord 17 = .ok (.aload_n 0, 1) := by decide +kernel
theorem dX8_takesWord_18 : decode cX8_takesWord 18 = .ok (.getfield 24, 3) := by decide +kernel
theorem dX8_takesWord_21 : decode cX8_takesWord 21 = .ok (.iload_n 3, 1) := by decide +kernel
theorem dX8_takesWord_22 : decode cX8_takesWord 22 = .ok (.iadd, 1) := by decide +kernel
theorem dX8_takesWord_23 : decode cX8_takesWord 23 = .ok (.invokevirtual 37, 3) := by decide +kernel
theorem dX8_takesWord_26 : decode cX8_takesWord 26 = .ok (.aload_n 1, 1) := by decide +kernel
theorem dX8_takesWord_27 : decode cX8_takesWord 27 = .ok (.iload_n 3, 1) := by decide +kernel
theorem dX8_takesWord_28 : decode cX8_takesWord 28 = .ok (.invokevirtual 79, 3) := by decide +kernel
theorem dX8_takesWord_31 : decode cX8_takesWord 31 = .ok (.if_icmp .eq 5, 3) := by decide +kernel
theorem dX8_takesWord_34 : decode cX8_takesWord 34 = .ok (.iconst 0, 1) := by decide +kernel
theorem dX8_takesWord_35 : decode cX8_takesWord 35 = .ok (.ireturn, 1) := by decide +kernel
theorem dX8_takesWord_36 : decode cX8_takesWord 36 = .ok (.iinc 3 1, 3) := by decide +kernel
theorem dX8_takesWord_39 : decode cX8_takesWord 39 = .ok (.goto (-28), 3) := by decide +kernel
theorem dX8_takesWord_42 : decode cX8_takesWord 42 = .ok (.aload_n 0, 1) := by decide +kernel
theorem dX8_takesWord_43 : decode cX8_takesWord 43 = .ok (.aload_n 0, 1) := by decide +kernel
theorem dX8_takesWord_44 : decode cX8_takesWord 44 = .ok (.getfield 24, 3) := by decide +kernel
theorem dX8_takesWord_47 : decode cX8_takesWord 47 = .ok (.iload_n 2, 1) := by decide +kernel
theorem dX8_takesWord_48 : decode cX8_takesWord 48 = .ok (.iadd, 1) := by decide +kernel
theorem dX8_takesWord_49 : decode cX8_takesWord 49 = .ok (.invokevirtual 37, 3) := by decide +kernel
theorem dX8_takesWord_52 : decode cX8_takesWord 52 = .ok (.bipush 97, 2) := by decide +kernel
theorem dX8_takesWord_54 : decode cX8_takesWord 54 = .ok (.bipush 122, 2) := by decide +kernel
theorem dX8_takesWord_56 : decode cX8_takesWord 56 = .ok (.invokestatic 83, 3) := by decide +kernel
theorem dX8_takesWord_59 : decode cX8_takesWord 59 = .ok (.ifCond .eq 5, 3) := by decide +kernel
theorem dX8_takesWord_62 : decode cX8_takesWord 62 = .ok (.iconst 0, 1) := by decide +kernel
theorem dX8_takesWord_63 : decode cX8_takesWord 63 = .ok (.ireturn, 1) := by decide +kernel
theorem dX8_takesWord_64 : decode cX8_takesWord 64 = .ok (.aload_n 0, 1) := by decide +kernel
theorem dX8_takesWord_65 : decode cX8_takesWord 65 = .ok (.dup, 1) := by decide +kernel
theorem dX8_takesWord_66 : decode cX8_takesWord 66 = .ok (.getfield 24, 3) := by decide +kernel
theorem dX8_takesWord_69 : decode cX8_takesWord 69 = .ok (.iload_n 2, 1) := by decide +kernel
theorem dX8_takesWord_70 : decode cX8_takesWord 70 = .ok (.iadd, 1) := by decide +kernel
theorem dX8_takesWord_71 : decode cX8_takesWord 71 = .ok (.putfield 24, 3) := by decide +kernel
theorem dX8_takesWord_74 : decode cX8_takesWord 74 = .ok (.iconst 1, 1) := by decide +kernel
theorem dX8_takesWord_75 : decode cX8_takesWord 75 = .ok (.ireturn, 1) := by decide +kernel
set_option maxRecDepth 20000 in
theorem ggX8_takenNumber_X8_skipBlanks : GoodIn wsX8_takenNumber wsX8_skipBlanks := goodIn_r _ [6, 1, 7, 8, 9, 10, 5, 11, 12, 16, 17, 18, 19] (by decide +kernel) (by decide +kernel)
set_option maxRecDepth 20000 in
theorem gX8_takenNumber_X8_skipBlanks : GoodIn wsX8_takenNumber (wsV RX8 34 RX8 yX8_skipBlanks wsX8_skipBlanks) := goodIn_app (goodIn_of _ (by decide +kernel)) ggX8_takenNumber_X8_skipBlanks
set_option maxRecDepth 20000 in
theorem ggX8_takenNumber_X8_byteAt : GoodIn wsX8_takenNumber wsX8_byteAt := goodIn_r _ [11, 7, 12, 16, 17, 18, 19] (by decide +kernel) (by decide +kernel)
set_option maxRecDepth 20000 in
theorem gX8_takenNumber_X8_byteAt : GoodIn wsX8_takenNumber (wsV RX8 37 RX8 yX8_byteAt wsX8_byteAt) := goodIn_app (goodIn_of _ (by decide +kernel)) ggX8_takenNumber_X8_byteAt
set_option maxRecDepth 20000 in
theorem ggX8_takenNumber_X9_isWithin : GoodIn wsX8_takenNumber wsX9_isWithin := goodIn_r _ [15] (by decide +kernel) (by decide +kernel)
set_option maxRecDepth 20000 in
theorem gX8_takenNumber_X9_isWithin_n83 : GoodIn wsX8_takenNumber (wsX9_isWithin) := ggX8_takenNumber_X9_isWithin
theorem dX8_takenNumber_0 : decode cX8_takenNumber 0 = .ok (.aload_n 0, 1) := by decide +kernel
theorem dX8_takenNumber_1 : decode cX8_takenNumber 1 = .ok (.invokevirtual 34, 3) := by decide +kernel
theorem dX8_takenNumber_4 : decode cX8_takenNumber 4 = .ok (.iconst 0, 1) := by decide +kernel
theorem dX8_takenNumber_5 : decode cX8_takenNumber 5 = .ok (.istore_n 3, 1) := by decide +kernel
theorem dX8_takenNumber_6 : decode cX8_takenNumber 6 = .ok (.iconst 0, 1) := by decide +kernel
theorem dX8_takenNumber_7 : decode cX8_takenNumber 7 = .ok (.istore 4, 2) := by decide +kernel
theorem dX8_takenNumber_9 : decode cX8_takenNumber 9 = .ok (.iload_n 3, 1) := by decide +kernel
theorem dX8_takenNumber_10 : decode cX8_takenNumber 10 = .ok (.iconst 4, 1) := by decide +kernel
theorem dX8_takenNumber_11 : decode cX8_takenNumber 11 = .ok (.if_icmp .ge 50, 3) := by decide +kernel
theorem dX8_takenNumber_14 : decode cX8_takenNumber 14 = .ok (.aload_n 0, 1) := by decide +kernel
theorem dX8_takenNumber_15 : decode cX8_takenNumber 15 = .ok (.aload_n 0, 1) := by decide +kernel
theorem dX8_takenNumber_16 : decode cX8_takenNumber 16 = .ok (.getfield 24, 3) := by decide +kernel
theorem dX8_takenNumber_19 : decode cX8_takenNumber 19 = .ok (.iload_n 3, 1) := by decide +kernel
theorem dX8_takenNumber_20 : decode cX8_takenNumber 20 = .ok (.iadd, 1) := by decide +kernel
theorem dX8_takenNumber_21 : decode cX8_takenNumber 21 = .ok (.invokevirtual 37, 3) := by decide +kernel
theorem dX8_takenNumber_24 : decode cX8_takenNumber 24 = .ok (.bipush 48, 2) := by decide +kernel
theorem dX8_takenNumber_26 : decode cX8_takenNumber 26 = .ok (.bipush 57, 2) := by decide +kernel
theorem dX8_takenNumber_28 : decode cX8_takenNumber 28 = .ok (.invokestatic 83, 3) := by decide +kernel
theorem dX8_takenNumber_31 : decode cX8_takenNumber 31 = .ok (.ifCond .eq 30, 3) := by decide +kernel
theorem dX8_takenNumber_34 : decode cX8_takenNumber 34 = .ok (.iload 4, 2) := by decide +kernel
theorem dX8_takenNumber_36 : decode cX8_takenNumber 36 = .ok (.bipush 10, 2) := by decide +kernel
theorem dX8_takenNumber_38 : decode cX8_takenNumber 38 = .ok (.imul, 1) := by decide +kernel
theorem dX8_takenNumber_39 : decode cX8_takenNumber 39 = .ok (.aload_n 0, 1) := by decide +kernel
theorem dX8_takenNumber_40 : decode cX8_takenNumber 40 = .ok (.aload_n 0, 1) := by decide +kernel
theorem dX8_takenNumber_41 : decode cX8_takenNumber 41 = .ok (.getfield 24, 3) := by decide +kernel
theorem dX8_takenNumber_44 : decode cX8_takenNumber 44 = .ok (.iload_n 3, 1) := by decide +kernel
theorem dX8_takenNumber_45 : decode cX8_takenNumber 45 = .ok (.iadd, 1) := by decide +kernel
theorem dX8_takenNumber_46 : decode cX8_takenNumber 46 = .ok (.invokevirtual 37, 3) := by decide +kernel
theorem dX8_takenNumber_49 : decode cX8_takenNumber 49 = .ok (.iadd, 1) := by decide +kernel
theorem dX8_takenNumber_50 : decode cX8_takenNumber 50 = .ok (.bipush 48, 2) := by decide +kernel
theorem dX8_takenNumber_52 : decode cX8_takenNumber 52 = .ok (.isub, 1) := by decide +kernel
theorem dX8_takenNumber_53 : decode cX8_takenNumber 53 = .ok (.istore 4, 2) := by decide +kernel
theorem dX8_takenNumber_55 : decode cX8_takenNumber 55 = .ok (.iinc 3 1, 3) := by decide +kernel
theorem dX8_takenNumber_58 : decode cX8_takenNumber 58 = .ok (.goto (-49), 3) := by decide +kernel
theorem dX8_takenNumber_61 : decode cX8_takenNumber 61 = .ok (.iload_n 3, 1) := by decide +kernel
theorem dX8_takenNumber_62 : decode cX8_takenNumber 62 = .ok (.iconst 1, 1) := by decide +kernel
theorem dX8_takenNumber_63 : decode cX8_takenNumber 63 = .ok (.if_icmp .lt 18, 3) := by decide +kernel
theorem dX8_takenNumber_66 : decode cX8_takenNumber 66 = .ok (.iload_n 3, 1) := by decide +kernel
theorem dX8_takenNumber_67 : decode cX8_takenNumber 67 = .ok (.iconst 3, 1) := by decide +kernel
theorem dX8_takenNumber_68 : decode cX8_takenNumber 68 = .ok (.if_icmp .gt 13, 3) := by decide +kernel
theorem dX8_takenNumber_71 : decode cX8_takenNumber 71 = .ok (.iload 4, 2) := by decide +kernel
theorem dX8_takenNumber_73 : decode cX8_takenNumber 73 = .ok (.iload_n 1, 1) := by decide +kernel
theorem dX8_takenNumber_74 : decode cX8_takenNumber 74 = .ok (.iload_n 2, 1) := by decide +kernel
theorem dX8_takenNumber_75 : decode cX8_takenNumber 75 = .ok (.invokestatic 83, 3) := by decide +kernel
theorem dX8_takenNumber_78 : decode cX8_takenNumber 78 = .ok (.ifCond .ne 5, 3) := by decide +kernel
theorem dX8_takenNumber_81 : decode cX8_takenNumber 81 = .ok (.iconst (-1), 1) := by decide +kernel
theorem dX8_takenNumber_82 : decode cX8_takenNumber 82 = .ok (.ireturn, 1) := by decide +kernel
theorem dX8_takenNumber_83 : decode cX8_takenNumber 83 = .ok (.aload_n 0, 1) := by decide +kernel
theorem dX8_takenNumber_84 : decode cX8_takenNumber 84 = .ok (.dup, 1) := by decide +kernel
theorem dX8_takenNumber_85 : decode cX8_takenNumber 85 = .ok (.getfield 24, 3) := by decide +kernel
theorem dX8_takenNumber_88 : decode cX8_takenNumber 88 = .ok (.iload_n 3, 1) := by decide +kernel
theorem dX8_takenNumber_89 : decode cX8_takenNumber 89 = .ok (.iadd, 1) := by decide +kernel
theorem dX8_takenNumber_90 : decode cX8_takenNumber 90 = .ok (.putfield 24, 3) := by decide +kernel
theorem dX8_takenNumber_93 : decode cX8_takenNumber 93 = .ok (.iload 4, 2) := by decide +kernel
theorem dX8_takenNumber_95 : decode cX8_takenNumber 95 = .ok (.ireturn, 1) := by decide +kernel
set_option maxRecDepth 20000 in
theorem ggX9_init_X8_init : GoodIn wsX9_init wsX8_init := goodIn_r _ [35, 36, 2, 3, 22, 37, 69, 70, 71, 72] (by decide +kernel) (by decide +kernel)
set_option maxRecDepth 20000 in
theorem gX9_init_X8_init_n9 : GoodIn wsX9_init (wsX8_init) := ggX9_init_X8_init
set_option maxRecDepth 20000 in
theorem ggX9_init_X4_init : GoodIn wsX9_init wsX4_init := goodIn_r _ [39, 40, 2, 3, 22, 41, 42, 43, 44, 45, 46, 89, 90, 91, 92, 93, 94, 95] (by decide +kernel) (by decide +kernel)
set_option maxRecDepth 20000 in
theorem gX9_init_X4_init_n18 : GoodIn wsX9_init (wsX4_init) := ggX9_init_X4_init
set_option maxRecDepth 20000 in
theorem ggX9_init_X7_init : GoodIn wsX9_init wsX7_init := goodIn_r _ [48, 49, 2, 3, 22, 50, 51, 52, 53, 54, 96, 97, 98, 99, 100, 101] (by decide +kernel) (by decide +kernel)
set_option maxRecDepth 20000 in
theorem gX9_init_X7_init_n60 : GoodIn wsX9_init (wsX7_init) := ggX9_init_X7_init
set_option maxRecDepth 20000 in
theorem ggX9_init_X1_init : GoodIn wsX9_init wsX1_init := goodIn_r _ [56, 57, 2, 3, 58, 59, 60, 61, 22, 62, 63, 102, 103, 104, 105, 106, 107] (by decide +kernel) (by decide +kernel)
set_option maxRecDepth 20000 in
theorem gX9_init_X1_init_n67 : GoodIn wsX9_init (wsX1_init) := ggX9_init_X1_init
set_option maxRecDepth 20000 in
theorem ggX9_init_X0_init : GoodIn wsX9_init wsX0_init := goodIn_r _ [65, 66, 2, 3, 22, 67, 68, 108, 109, 110, 111, 112, 113, 114, 115] (by decide +kernel) (by decide +kernel)
set_option maxRecDepth 20000 in
theorem gX9_init_X0_init_n72 : GoodIn wsX9_init (wsX0_init) := ggX9_init_X0_init
theorem dX9_init_0 : decode cX9_init 0 = .ok (.aload_n 0, 1) := by decide +kernel
theorem dX9_init_1 : decode cX9_init 1 = .ok (.invokespecial 1, 3) := by decide +kernel
theorem dX9_init_4 : decode cX9_init 4 = .ok (.aload_n 0, 1) := by decide +kernel
theorem dX9_init_5 : decode cX9_init 5 = .ok (.new 7, 3) := by decide +kernel
theorem dX9_init_8 : decode cX9_init 8 = .ok (.dup, 1) := by decide +kernel
theorem dX9_init_9 : decode cX9_init 9 = .ok (.invokespecial 9, 3) := by decide +kernel
theorem dX9_init_12 : decode cX9_init 12 = .ok (.putfield 10, 3) := by decide +kernel
theorem dX9_init_15 : decode cX9_init 15 = .ok (.aload_n 0, 1) := by decide +kernel
theorem dX9_init_16 : decode cX9_init 16 = .ok (.new 16, 3) := by decide +kernel
theorem dX9_init_19 : decode cX9_init 19 = .ok (.dup, 1) := by decide +kernel
theorem dX9_init_20 : decode cX9_init 20 = .ok (.invokespecial 18, 3) := by decide +kernel
theorem dX9_init_23 : decode cX9_init 23 = .ok (.putfield 19, 3) := by decide +kernel
theorem dX9_init_26 : decode cX9_init 26 = .ok (.aload_n 0, 1) := by decide +kernel
theorem dX9_init_27 : decode cX9_init 27 = .ok (.new 16, 3) := by decide +kernel
theorem dX9_init_30 : decode cX9_init 30 = .ok (.dup, 1) := by decide +kernel
theorem dX9_init_31 : decode cX9_init 31 = .ok (.invokespecial 18, 3) := by decide +kernel
theorem dX9_init_34 : decode cX9_init 34 = .ok (.putfield 23, 3) := by decide +kernel
theorem dX9_init_37 : decode cX9_init 37 = .ok (.aload_n 0, 1) := by decide +kernel
theorem dX9_init_38 : decode cX9_init 38 = .ok (.iconst (-1), 1) := by decide +kernel
theorem dX9_init_39 : decode cX9_init 39 = .ok (.putfield 26, 3) := by decide +kernel
theorem dX9_init_42 : decode cX9_init 42 = .ok (.aload_n 0, 1) := by decide +kernel
theorem dX9_init_43 : decode cX9_init 43 = .ok (.bipush 6, 2) := by decide +kernel
theorem dX9_init_45 : decode cX9_init 45 = .ok (.anewarray 30, 3) := by decide +kernel
theorem dX9_init_48 : decode cX9_init 48 = .ok (.putfield 32, 3) := by decide +kernel
theorem dX9_init_51 : decode cX9_init 51 = .ok (.aload_n 0, 1) := by decide +kernel
theorem dX9_init_52 : decode cX9_init 52 = .ok (.bipush 8, 2) := by decide +kernel
theorem dX9_init_54 : decode cX9_init 54 = .ok (.anewarray 36, 3) := by decide +kernel
theorem dX9_init_57 : decode cX9_init 57 = .ok (.putfield 38, 3) := by decide +kernel
theorem dX9_init_60 : decode cX9_init 60 = .ok (.aload_n 0, 1) := by decide +kernel
theorem dX9_init_61 : decode cX9_init 61 = .ok (.bipush 12, 2) := by decide +kernel
theorem dX9_init_63 : decode cX9_init 63 = .ok (.anewarray 42, 3) := by decide +kernel
theorem dX9_init_66 : decode cX9_init 66 = .ok (.putfield 44, 3) := by decide +kernel
theorem dX9_init_69 : decode cX9_init 69 = .ok (.aload_n 0, 1) := by decide +kernel
theorem dX9_init_70 : decode cX9_init 70 = .ok (.bipush 60, 2) := by decide +kernel
theorem dX9_init_72 : decode cX9_init 72 = .ok (.anewarray 48, 3) := by decide +kernel
theorem dX9_init_75 : decode cX9_init 75 = .ok (.putfield 50, 3) := by decide +kernel
theorem dX9_init_78 : decode cX9_init 78 = .ok (.aload_n 0, 1) := by decide +kernel
theorem dX9_init_79 : decode cX9_init 79 = .ok (.iconst 5, 1) := by decide +kernel
theorem dX9_init_80 : decode cX9_init 80 = .ok (.newarray .int, 2) := by decide +kernel
theorem dX9_init_82 : decode cX9_init 82 = .ok (.putfield 54, 3) := by decide +kernel
theorem dX9_init_85 : decode cX9_init 85 = .ok (.aload_n 0, 1) := by decide +kernel
theorem dX9_init_86 : decode cX9_init 86 = .ok (.new 58, 3) := by decide +kernel
theorem dX9_init_89 : decode cX9_init 89 = .ok (.dup, 1) := by decide +kernel
theorem dX9_init_90 : decode cX9_init 90 = .ok (.invokespecial 60, 3) := by decide +kernel
theorem dX9_init_93 : decode cX9_init 93 = .ok (.putfield 61, 3) := by decide +kernel
theorem dX9_init_96 : decode cX9_init 96 = .ok (.aload_n 0, 1) := by decide +kernel
theorem dX9_init_97 : decode cX9_init 97 = .ok (.new 65, 3) := by decide +kernel
theorem dX9_init_100 : decode cX9_init 100 = .ok (.dup, 1) := by decide +kernel
theorem dX9_init_101 : decode cX9_init 101 = .ok (.invokespecial 67, 3) := by decide +kernel
theorem dX9_init_104 : decode cX9_init 104 = .ok (.putfield 68, 3) := by decide +kernel
theorem dX9_init_107 : decode cX9_init 107 = .ok (.iconst 0, 1) := by decide +kernel
theorem dX9_init_108 : decode cX9_init 108 = .ok (.istore_n 1, 1) := by decide +kernel
theorem dX9_init_109 : decode cX9_init 109 = .ok (.iload_n 1, 1) := by decide +kernel
theorem dX9_init_110 : decode cX9_init 110 = .ok (.aload_n 0, 1) := by decide +kernel
theorem dX9_init_111 : decode cX9_init 111 = .ok (.getfield 38, 3) := by decide +kernel
theorem dX9_init_114 : decode cX9_init 114 = .ok (.arraylength, 1) := by decide +kernel
theorem dX9_init_115 : decode cX9_init 115 = .ok (.if_icmp .ge 22, 3) := by decide +kernel
theorem dX9_init_118 : decode cX9_init 118 = .ok (.aload_n 0, 1) := by decide +kernel
theorem dX9_init_119 : decode cX9_init 119 = .ok (.getfield 38, 3) := by decide +kernel
theorem dX9_init_122 : decode cX9_init 122 = .ok (.iload_n 1, 1) := by decide +kernel
theorem dX9_init_123 : decode cX9_init 123 = .ok (.new 36, 3) := by decide +kernel
theorem dX9_init_126 : decode cX9_init 126 = .ok (.dup, 1) := by decide +kernel
theorem dX9_init_127 : decode cX9_init 127 = .ok (.invokespecial 72, 3) := by decide +kernel
theorem dX9_init_130 : decode cX9_init 130 = .ok (.aastore, 1) := by decide +kernel
theorem dX9_init_131 : decode cX9_init 131 = .ok (.iinc 1 1, 3) := by decide +kernel
theorem dX9_init_134 : decode cX9_init 134 = .ok (.goto (-25), 3) := by decide +kernel
theorem dX9_init_137 : decode cX9_init 137 = .ok (.return_, 1) := by decide +kernel
set_option maxRecDepth 20000 in
theorem ggX9_feed_X8_putNumber : GoodIn wsX9_feed wsX8_putNumber := goodIn_r _ [6, 7, 8, 25, 26, 27, 28] (by decide +kernel) (by decide +kernel)
set_option maxRecDepth 20000 in
theorem gX9_feed_X8_putNumber : GoodIn wsX9_feed (wsV RX9 76 RX8 yX8_putNumber wsX8_putNumber) := goodIn_app (goodIn_of _ (by decide +kernel)) ggX9_feed_X8_putNumber
theorem dX9_feed_0 : decode cX9_feed 0 = .ok (.aload_n 0, 1) := by decide +kernel
theorem dX9_feed_1 : decode cX9_feed 1 = .ok (.getfield 10, 3) := by decide +kernel
theorem dX9_feed_4 : decode cX9_feed 4 = .ok (.getfield 73, 3) := by decide +kernel
theorem dX9_feed_7 : decode cX9_feed 7 = .ok (.bipush 20, 2) := by decide +kernel
theorem dX9_feed_9 : decode cX9_feed 9 = .ok (.iadd, 1) := by decide +kernel
theorem dX9_feed_10 : decode cX9_feed 10 = .ok (.sipush 400, 3) := by decide +kernel
theorem dX9_feed_13 : decode cX9_feed 13 = .ok (.if_icmp .le 5, 3) := by decide +kernel
theorem dX9_feed_16 : decode cX9_feed 16 = .ok (.iconst (-1), 1) := by decide +kernel
theorem dX9_feed_17 : decode cX9_feed 17 = .ok (.ireturn, 1) := by decide +kernel
theorem dX9_feed_18 : decode cX9_feed 18 = .ok (.aload_n 0, 1) := by decide +kernel
theorem dX9_feed_19 : decode cX9_feed 19 = .ok (.getfield 10, 3) := by decide +kernel
theorem dX9_feed_22 : decode cX9_feed 22 = .ok (.iload_n 1, 1) := by decide +kernel
theorem dX9_feed_23 : decode cX9_feed 23 = .ok (.invokevirtual 76, 3) := by decide +kernel
theorem dX9_feed_26 : decode cX9_feed 26 = .ok (.aload_n 0, 1) := by decide +kernel
theorem dX9_feed_27 : decode cX9_feed 27 = .ok (.getfield 10, 3) := by decide +kernel
theorem dX9_feed_30 : decode cX9_feed 30 = .ok (.iload_n 2, 1) := by decide +kernel
theorem dX9_feed_31 : decode cX9_feed 31 = .ok (.invokevirtual 76, 3) := by decide +kernel
theorem dX9_feed_34 : decode cX9_feed 34 = .ok (.aload_n 0, 1) := by decide +kernel
theorem dX9_feed_35 : decode cX9_feed 35 = .ok (.getfield 10, 3) := by decide +kernel
theorem dX9_feed_38 : decode cX9_feed 38 = .ok (.iload_n 3, 1) := by decide +kernel
theorem dX9_feed_39 : decode cX9_feed 39 = .ok (.invokevirtual 76, 3) := by decide +kernel
theorem dX9_feed_42 : decode cX9_feed 42 = .ok (.aload_n 0, 1) := by decide +kernel
theorem dX9_feed_43 : decode cX9_feed 43 = .ok (.getfield 10, 3) := by decide +kernel
theorem dX9_feed_46 : decode cX9_feed 46 = .ok (.iload 4, 2) := by decide +kernel
theorem dX9_feed_48 : decode cX9_feed 48 = .ok (.invokevirtual 76, 3) := by decide +kernel
theorem dX9_feed_51 : decode cX9_feed 51 = .ok (.aload_n 0, 1) := by decide +kernel
theorem dX9_feed_52 : decode cX9_feed 52 = .ok (.getfield 10, 3) := by decide +kernel
theorem dX9_feed_55 : decode cX9_feed 55 = .ok (.iload 5, 2) := by decide +kernel
theorem dX9_feed_57 : decode cX9_feed 57 = .ok (.invokevirtual 76, 3) := by decide +kernel
theorem dX9_feed_60 : decode cX9_feed 60 = .ok (.aload_n 0, 1) := by decide +kernel
theorem dX9_feed_61 : decode cX9_feed 61 = .ok (.getfield 10, 3) := by decide +kernel
theorem dX9_feed_64 : decode cX9_feed 64 = .ok (.getfield 73, 3) := by decide +kernel
theorem dX9_feed_67 : decode cX9_feed 67 = .ok (.ireturn, 1) := by decide +kernel
theorem dX9_end_0 : decode cX9_end 0 = .ok (.iload_n 1, 1) := by decide +kernel
theorem dX9_end_1 : decode cX9_end 1 = .ok (.ifCond .lt 14, 3) := by decide +kernel
theorem dX9_end_4 : decode cX9_end 4 = .ok (.iload_n 1, 1) := by decide +kernel
theorem dX9_end_5 : decode cX9_end 5 = .ok (.aload_n 0, 1) := by decide +kernel
theorem dX9_end_6 : decode cX9_end 6 = .ok (.getfield 10, 3) := by decide +kernel
theorem dX9_end_9 : decode cX9_end 9 = .ok (.getfield 73, 3) := by decide +kernel
theorem dX9_end_12 : decode cX9_end 12 = .ok (.if_icmp .le 5, 3) := by decide +kernel
theorem dX9_end_15 : decode cX9_end 15 = .ok (.iconst 0, 1) := by decide +kernel
theorem dX9_end_16 : decode cX9_end 16 = .ok (.ireturn, 1) := by decide +kernel
theorem dX9_end_17 : decode cX9_end 17 = .ok (.aload_n 0, 1) := by decide +kernel
theorem dX9_end_18 : decode cX9_end 18 = .ok (.getfield 10, 3) := by decide +kernel
theorem dX9_end_21 : decode cX9_end 21 = .ok (.iload_n 1, 1) := by decide +kernel
theorem dX9_end_22 : decode cX9_end 22 = .ok (.putfield 73, 3) := by decide +kernel
theorem dX9_end_25 : decode cX9_end 25 = .ok (.iconst 1, 1) := by decide +kernel
theorem dX9_end_26 : decode cX9_end 26 = .ok (.ireturn, 1) := by decide +kernel
set_option maxRecDepth 20000 in
theorem ggX9_rights_X8_readsRights : GoodIn wsX9_rights wsX8_readsRights := goodIn_r _ [12, 13, 14, 15, 16, 17, 18, 19, 20, 21, 22, 23, 24, 25, 11, 26, 27, 28, 29, 30, 31, 32, 33, 34, 35, 36, 37, 38, 39, 40, 41, 42, 43, 44, 45, 46, 47, 48, 49, 50, 51, 52, 53, 54, 55, 56, 57, 58, 59, 60, 61, 62, 63, 64, 65, 66, 67, 68, 69, 70, 71, 72, 73, 74, 75, 76, 77, 78, 79, 80, 81, 82, 83, 84, 85, 86, 87, 88, 89, 90, 91, 92, 93, 94, 95, 96, 97, 98, 99, 100, 101, 102, 103, 104, 105, 106, 107, 108, 109, 110, 111, 112, 129, 130, 131, 132, 133, 134, 135, 136, 137, 138, 139] (by decide +kernel) (by decide +kernel)
set_option maxRecDepth 20000 in
theorem gX9_rights_X8_readsRights : GoodIn wsX9_rights (wsV RX9 83 RX8 yX8_readsRights wsX8_readsRights) := goodIn_app (goodIn_of _ (by decide +kernel)) ggX9_rights_X8_readsRights
theorem dX9_rights_0 : decode cX9_rights 0 = .ok (.aload_n 0, 1) := by decide +kernel
theorem dX9_rights_1 : decode cX9_rights 1 = .ok (.getfield 10, 3) := by decide +kernel
theorem dX9_rights_4 : decode cX9_rights 4 = .ok (.aload_n 0, 1) := by decide +kernel
theorem dX9_rights_5 : decode cX9_rights 5 = .ok (.getfield 23, 3) := by decide +kernel
theorem dX9_rights_8 : decode cX9_rights 8 = .ok (.aload_n 0, 1) := by decide +kernel
theorem dX9_rights_9 : decode cX9_rights 9 = .ok (.getfield 80, 3) := by decide +kernel
theorem dX9_rights_12 : decode cX9_rights 12 = .ok (.invokevirtual 83, 3) := by decide +kernel
theorem dX9_rights_15 : decode cX9_rights 15 = .ok (.istore_n 1, 1) := by decide +kernel
theorem dX9_rights_16 : decode cX9_rights 16 = .ok (.aload_n 0, 1) := by decide +kernel
theorem dX9_rights_17 : decode cX9_rights 17 = .ok (.getfield 10, 3) := by decide +kernel
theorem dX9_rights_20 : decode cX9_rights 20 = .ok (.iconst 0, 1) := by decide +kernel
theorem dX9_rights_21 : decode cX9_rights 21 = .ok (.putfield 73, 3) := by decide +kernel
theorem dX9_rights_24 : decode cX9_rights 24 = .ok (.aload_n 0, 1) := by decide +kernel
theorem dX9_rights_25 : decode cX9_rights 25 = .ok (.iload_n 1, 1) := by decide +kernel
theorem dX9_rights_26 : decode cX9_rights 26 = .ok (.ifCond .eq 7, 3) := by decide +kernel
theorem dX9_rights_29 : decode cX9_rights 29 = .ok (.iconst (-1), 1) := by decide +kernel
theorem dX9_rights_30 : decode cX9_rights 30 = .ok (.goto 10, 3) := by decide +kernel
theorem dX9_rights_33 : decode cX9_rights 33 = .ok (.aload_n 0, 1) := by decide +kernel
theorem dX9_rights_34 : decode cX9_rights 34 = .ok (.getfield 10, 3) := by decide +kernel
theorem dX9_rights_37 : decode cX9_rights 37 = .ok (.getfield 87, 3) := by decide +kernel
theorem dX9_rights_40 : decode cX9_rights 40 = .ok (.putfield 26, 3) := by decide +kernel
theorem dX9_rights_43 : decode cX9_rights 43 = .ok (.iload_n 1, 1) := by decide +kernel
theorem dX9_rights_44 : decode cX9_rights 44 = .ok (.ifCond .ne 13, 3) := by decide +kernel
theorem dX9_rights_47 : decode cX9_rights 47 = .ok (.new 90, 3) := by decide +kernel
theorem dX9_rights_50 : decode cX9_rights 50 = .ok (.dup, 1) := by decide +kernel
theorem dX9_rights_51 : decode cX9_rights 51 = .ok (.ldc 92, 2) := by decide +kernel
theorem dX9_rights_53 : decode cX9_rights 53 = .ok (.invokespecial 94, 3) := by decide +kernel
theorem dX9_rights_56 : decode cX9_rights 56 = .ok (.athrow, 1) := by decide +kernel
theorem dX9_rights_57 : decode cX9_rights 57 = .ok (.aload_n 0, 1) := by decide +kernel
theorem dX9_rights_58 : decode cX9_rights 58 = .ok (.getfield 23, 3) := by decide +kernel
theorem dX9_rights_61 : decode cX9_rights 61 = .ok (.astore_n 2, 1) := by decide +kernel
theorem dX9_rights_62 : decode cX9_rights 62 = .ok (.aload_n 0, 1) := by decide +kernel
theorem dX9_rights_63 : decode cX9_rights 63 = .ok (.aload_n 0, 1) := by decide +kernel
theorem dX9_rights_64 : decode cX9_rights 64 = .ok (.getfield 19, 3) := by decide +kernel
theorem dX9_rights_67 : decode cX9_rights 67 = .ok (.putfield 23, 3) := by decide +kernel
theorem dX9_rights_70 : decode cX9_rights 70 = .ok (.aload_n 0, 1) := by decide +kernel
theorem dX9_rights_71 : decode cX9_rights 71 = .ok (.aload_n 2, 1) := by decide +kernel
theorem dX9_rights_72 : decode cX9_rights 72 = .ok (.putfield 19, 3) := by decide +kernel
theorem dX9_rights_75 : decode cX9_rights 75 = .ok (.aload_n 0, 1) := by decide +kernel
theorem dX9_rights_76 : decode cX9_rights 76 = .ok (.getfield 10, 3) := by decide +kernel
theorem dX9_rights_79 : decode cX9_rights 79 = .ok (.getfield 97, 3) := by decide +kernel
theorem dX9_rights_82 : decode cX9_rights 82 = .ok (.ireturn, 1) := by decide +kernel
theorem dX9_fault_0 : decode cX9_fault 0 = .ok (.aload_n 0, 1) := by decide +kernel
theorem dX9_fault_1 : decode cX9_fault 1 = .ok (.getfield 26, 3) := by decide +kernel
theorem dX9_fault_4 : decode cX9_fault 4 = .ok (.ireturn, 1) := by decide +kernel
set_option maxRecDepth 20000 in
theorem ggX9_may_X9_needShore : GoodIn wsX9_may wsX9_needShore := goodIn_ca (goodIn_r _ [6, 7, 8, 9, 27, 28, 29, 30, 31, 32, 33, 34, 35, 36, 37, 38, 39, 40, 41, 42] (by decide +kernel) (by decide +kernel)) (goodIn_sub (fun _ h => List.mem_cons_of_mem _ (List.mem_append_right _ h)) (by decide +kernel))
set_option maxRecDepth 20000 in
theorem gX9_may_X9_needShore : GoodIn wsX9_may (wsV RX9 100 RX9 yX9_needShore wsX9_needShore) := goodIn_app (goodIn_of _ (by decide +kernel)) ggX9_may_X9_needShore
set_option maxRecDepth 20000 in
theorem ggX9_may_X9_needFamily : GoodIn wsX9_may wsX9_needFamily := goodIn_ca (goodIn_r _ [13, 7, 8, 14, 27, 28, 29, 30, 31, 32, 33, 34, 35, 36, 37, 38, 39, 40, 41, 42] (by decide +kernel) (by decide +kernel)) (goodIn_sub (fun _ h => List.mem_cons_of_mem _ (List.mem_append_right _ h)) (by decide +kernel))
set_option maxRecDepth 20000 in
theorem gX9_may_X9_needFamily : GoodIn wsX9_may (wsV RX9 104 RX9 yX9_needFamily wsX9_needFamily) := goodIn_app (goodIn_of _ (by decide +kernel)) ggX9_may_X9_needFamily
set_option maxRecDepth 20000 in
theorem ggX9_may_X4_firstPart : GoodIn wsX9_may wsX4_firstPart := goodIn_r _ [19, 20, 21, 22, 23, 24, 25, 5, 26, 43, 44, 45, 46, 47, 48, 49] (by decide +kernel) (by decide +kernel)
set_option maxRecDepth 20000 in
theorem gX9_may_X4_firstPart : GoodIn wsX9_may (wsV RX9 108 RX4 yX4_firstPart wsX4_firstPart) := goodIn_app (goodIn_of _ (by decide +kernel)) ggX9_may_X4_firstPart
theorem dX9_may_0 : decode cX9_may 0 = .ok (.aload_n 0, 1) := by decide +kernel
theorem dX9_may_1 : decode cX9_may 1 = .ok (.iload_n 1, 1) := by decide +kernel
theorem dX9_may_2 : decode cX9_may 2 = .ok (.invokevirtual 100, 3) := by decide +kernel
theorem dX9_may_5 : decode cX9_may 5 = .ok (.pop, 1) := by decide +kernel
theorem dX9_may_6 : decode cX9_may 6 = .ok (.aload_n 0, 1) := by decide +kernel
theorem dX9_may_7 : decode cX9_may 7 = .ok (.iload_n 2, 1) := by decide +kernel
theorem dX9_may_8 : decode cX9_may 8 = .ok (.invokevirtual 104, 3) := by decide +kernel
theorem dX9_may_11 : decode cX9_may 11 = .ok (.pop, 1) := by decide +kernel
theorem dX9_may_12 : decode cX9_may 12 = .ok (.aload_n 0, 1) := by decide +kernel
theorem dX9_may_13 : decode cX9_may 13 = .ok (.getfield 19, 3) := by decide +kernel
theorem dX9_may_16 : decode cX9_may 16 = .ok (.iload_n 1, 1) := by decide +kernel
theorem dX9_may_17 : decode cX9_may 17 = .ok (.iload_n 2, 1) := by decide +kernel
theorem dX9_may_18 : decode cX9_may 18 = .ok (.iload_n 3, 1) := by decide +kernel
theorem dX9_may_19 : decode cX9_may 19 = .ok (.invokevirtual 108, 3) := by decide +kernel
theorem dX9_may_22 : decode cX9_may 22 = .ok (.iconst (-1), 1) := by decide +kernel
theorem dX9_may_23 : decode cX9_may 23 = .ok (.if_icmp .eq 7, 3) := by decide +kernel
theorem dX9_may_26 : decode cX9_may 26 = .ok (.iconst 1, 1) := by decide +kernel
theorem dX9_may_27 : decode cX9_may 27 = .ok (.goto 4, 3) := by decide +kernel
theorem dX9_may_30 : decode cX9_may 30 = .ok (.iconst 0, 1) := by decide +kernel
theorem dX9_may_31 : decode cX9_may 31 = .ok (.ireturn, 1) := by decide +kernel
set_option maxRecDepth 20000 in
theorem ggX9_shore_X6_init : GoodIn wsX9_shore wsX6_init := goodIn_r _ [9, 10, 11, 12, 13, 14, 31, 32, 33] (by decide +kernel) (by decide +kernel)
set_option maxRecDepth 20000 in
theorem gX9_shore_X6_init_n117 : GoodIn wsX9_shore (wsX6_init) := ggX9_shore_X6_init
theorem dX9_shore_0 : decode cX9_shore 0 = .ok (.aload_n 0, 1) := by decide +kernel
theorem dX9_shore_1 : decode cX9_shore 1 = .ok (.getfield 80, 3) := by decide +kernel
theorem dX9_shore_4 : decode cX9_shore 4 = .ok (.aload_n 0, 1) := by decide +kernel
theorem dX9_shore_5 : decode cX9_shore 5 = .ok (.getfield 32, 3) := by decide +kernel
theorem dX9_shore_8 : decode cX9_shore 8 = .ok (.arraylength, 1) := by decide +kernel
theorem dX9_shore_9 : decode cX9_shore 9 = .ok (.if_icmp .lt 13, 3) := by decide +kernel
theorem dX9_shore_12 : decode cX9_shore 12 = .ok (.new 112, 3) := by decide +kernel
theorem dX9_shore_15 : decode cX9_shore 15 = .ok (.dup, 1) := by decide +kernel
theorem dX9_shore_16 : decode cX9_shore 16 = .ok (.ldc 114, 2) := by decide +kernel
theorem dX9_shore_18 : decode cX9_shore 18 = .ok (.invokespecial 116, 3) := by decide +kernel
theorem dX9_shore_21 : decode cX9_shore 21 = .ok (.athrow, 1) := by decide +kernel
theorem dX9_shore_22 : decode cX9_shore 22 = .ok (.aload_n 0, 1) := by decide +kernel
theorem dX9_shore_23 : decode cX9_shore 23 = .ok (.getfield 32, 3) := by decide +kernel
theorem dX9_shore_26 : decode cX9_shore 26 = .ok (.aload_n 0, 1) := by decide +kernel
theorem dX9_shore_27 : decode cX9_shore 27 = .ok (.getfield 80, 3) := by decide +kernel
theorem dX9_shore_30 : decode cX9_shore 30 = .ok (.new 30, 3) := by decide +kernel
theorem dX9_shore_33 : decode cX9_shore 33 = .ok (.dup, 1) := by decide +kernel
theorem dX9_shore_34 : decode cX9_shore 34 = .ok (.invokespecial 117, 3) := by decide +kernel
theorem dX9_shore_37 : decode cX9_shore 37 = .ok (.aastore, 1) := by decide +kernel
theorem dX9_shore_38 : decode cX9_shore 38 = .ok (.aload_n 0, 1) := by decide +kernel
theorem dX9_shore_39 : decode cX9_shore 39 = .ok (.dup, 1) := by decide +kernel
theorem dX9_shore_40 : decode cX9_shore 40 = .ok (.getfield 80, 3) := by decide +kernel
theorem dX9_shore_43 : decode cX9_shore 43 = .ok (.iconst 1, 1) := by decide +kernel
theorem dX9_shore_44 : decode cX9_shore 44 = .ok (.iadd, 1) := by decide +kernel
theorem dX9_shore_45 : decode cX9_shore 45 = .ok (.putfield 80, 3) := by decide +kernel
theorem dX9_shore_48 : decode cX9_shore 48 = .ok (.aload_n 0, 1) := by decide +kernel
theorem dX9_shore_49 : decode cX9_shore 49 = .ok (.getfield 80, 3) := by decide +kernel
theorem dX9_shore_52 : decode cX9_shore 52 = .ok (.iconst 1, 1) := by decide +kernel
theorem dX9_shore_53 : decode cX9_shore 53 = .ok (.isub, 1) := by decide +kernel
theorem dX9_shore_54 : decode cX9_shore 54 = .ok (.ireturn, 1) := by decide +kernel
set_option maxRecDepth 20000 in
theorem ggX9_rock_X9_needShore : GoodIn wsX9_rock wsX9_needShore := goodIn_ca (goodIn_r _ [12, 13, 14, 15, 51, 52, 53, 54, 55, 56, 57, 58, 59, 60, 61, 62, 63, 64, 65, 66] (by decide +kernel) (by decide +kernel)) (goodIn_sub (fun _ h => List.mem_cons_of_mem _ (List.mem_append_right _ h)) (by decide +kernel))
set_option maxRecDepth 20000 in
theorem gX9_rock_X9_needShore : GoodIn wsX9_rock (wsV RX9 100 RX9 yX9_needShore wsX9_needShore) := goodIn_app (goodIn_of _ (by decide +kernel)) ggX9_rock_X9_needShore
set_option maxRecDepth 20000 in
theorem ggX9_rock_X9_isWithin : GoodIn wsX9_rock wsX9_isWithin := goodIn_r _ [18] (by decide +kernel) (by decide +kernel)
set_option maxRecDepth 20000 in
theorem gX9_rock_X9_isWithin : GoodIn wsX9_rock (va_wsS RX9 118 yX9_isWithin wsX9_isWithin) := goodIn_app (goodIn_of _ (by decide +kernel)) ggX9_rock_X9_isWithin
set_option maxRecDepth 20000 in
theorem ggX9_rock_X5_init : GoodIn wsX9_rock wsX5_init := goodIn_r _ [21, 22, 23, 24, 25, 26, 27, 28, 29, 30, 31, 42, 43, 44, 45, 46, 47, 48, 49, 50] (by decide +kernel) (by decide +kernel)
set_option maxRecDepth 20000 in
theorem gX9_rock_X5_init : GoodIn wsX9_rock (wsX5_init) := ggX9_rock_X5_init
set_option maxRecDepth 20000 in
theorem ggX9_rock_X6_addRock : GoodIn wsX9_rock wsX6_addRock := goodIn_r _ [36, 37, 38, 39, 40, 41] (by decide +kernel) (by decide +kernel)
set_option maxRecDepth 20000 in
theorem gX9_rock_X6_addRock : GoodIn wsX9_rock (wsV RX9 138 RX6 yX6_addRock wsX6_addRock) := goodIn_app (goodIn_of _ (by decide +kernel)) ggX9_rock_X6_addRock
theorem dX9_rock_0 : decode cX9_rock 0 = .ok (.aload_n 0, 1) := by decide +kernel
theorem dX9_rock_1 : decode cX9_rock 1 = .ok (.iload_n 1, 1) := by decide +kernel
theorem dX9_rock_2 : decode cX9_rock 2 = .ok (.invokevirtual 100, 3) := by decide +kernel
theorem dX9_rock_5 : decode cX9_rock 5 = .ok (.astore 4, 2) := by decide +kernel
theorem dX9_rock_7 : decode cX9_rock 7 = .ok (.iload_n 2, 1) := by decide +kernel
theorem dX9_rock_8 : decode cX9_rock 8 = .ok (.iconst 0, 1) := by decide +kernel
theorem dX9_rock_9 : decode cX9_rock 9 = .ok (.bipush 9, 2) := by decide +kernel
theorem dX9_rock_11 : decode cX9_rock 11 = .ok (.invokestatic 118, 3) := by decide +kernel
theorem dX9_rock_14 : decode cX9_rock 14 = .ok (.ifCond .eq 14, 3) := by decide +kernel
theorem dX9_rock_17 : decode cX9_rock 17 = .ok (.iload_n 3, 1) := by decide +kernel
theorem dX9_rock_18 : decode cX9_rock 18 = .ok (.iconst 1, 1) := by decide +kernel
theorem dX9_rock_19 : decode cX9_rock 19 = .ok (.sipush 1000, 3) := by decide +kernel
theorem dX9_rock_22 : decode cX9_rock 22 = .ok (.invokestatic 118, 3) := by decide +kernel
theorem dX9_rock_25 : decode cX9_rock 25 = .ok (.ifCond .ne 13, 3) := by decide +kernel
theorem dX9_rock_28 : decode cX9_rock 28 = .ok (.new 90, 3) := by decide +kernel
theorem dX9_rock_31 : decode cX9_rock 31 = .ok (.dup, 1) := by decide +kernel
theorem dX9_rock_32 : decode cX9_rock 32 = .ok (.ldc 122, 2) := by decide +kernel
theorem dX9_rock_34 : decode cX9_rock 34 = .ok (.invokespecial 94, 3) := by decide +kernel
theorem dX9_rock_37 : decode cX9_rock 37 = .ok (.athrow, 1) := by decide +kernel
theorem dX9_rock_38 : decode cX9_rock 38 = .ok (.aload 4, 2) := by decide +kernel
theorem dX9_rock_40 : decode cX9_rock 40 = .ok (.getfield 124, 3) := by decide +kernel
theorem dX9_rock_43 : decode cX9_rock 43 = .ok (.aload 4, 2) := by decide +kernel
theorem dX9_rock_45 : decode cX9_rock 45 = .ok (.getfield 127, 3) := by decide +kernel
theorem dX9_rock_48 : decode cX9_rock 48 = .ok (.arraylength, 1) := by decide +kernel
theorem dX9_rock_49 : decode cX9_rock 49 = .ok (.if_icmp .lt 13, 3) := by decide +kernel
theorem dX9_rock_52 : decode cX9_rock 52 = .ok (.new 112, 3) := by decide +kernel
theorem dX9_rock_55 : decode cX9_rock 55 = .ok (.dup, 1) := by decide +kernel
theorem dX9_rock_56 : decode cX9_rock 56 = .ok (.ldc 131, 2) := by decide +kernel
theorem dX9_rock_58 : decode cX9_rock 58 = .ok (.invokespecial 116, 3) := by decide +kernel
theorem dX9_rock_61 : decode cX9_rock 61 = .ok (.athrow, 1) := by decide +kernel
theorem dX9_rock_62 : decode cX9_rock 62 = .ok (.aload 4, 2) := by decide +kernel
theorem dX9_rock_64 : decode cX9_rock 64 = .ok (.new 133, 3) := by decide +kernel
theorem dX9_rock_67 : decode cX9_rock 67 = .ok (.dup, 1) := by decide +kernel
theorem dX9_rock_68 : decode cX9_rock 68 = .ok (.iload_n 2, 1) := by decide +kernel
theorem dX9_rock_69 : decode cX9_rock 69 = .ok (.iload_n 3, 1) := by decide +kernel
theorem dX9_rock_70 : decode cX9_rock 70 = .ok (.invokespecial 135, 3) := by decide +kernel
theorem dX9_rock_73 : decode cX9_rock 73 = .ok (.invokevirtual 138, 3) := by decide +kernel
theorem dX9_rock_76 : decode cX9_rock 76 = .ok (.ireturn, 1) := by decide +kernel
set_option maxRecDepth 20000 in
theorem ggX9_hands_X9_needFamily : GoodIn wsX9_hands wsX9_needFamily := goodIn_ca (goodIn_r _ [7, 8, 9, 10, 22, 23, 24, 25, 26, 27, 28, 29, 30, 31, 32, 33, 34, 35, 36, 37] (by decide +kernel) (by decide +kernel)) (goodIn_sub (fun _ h => List.mem_cons_of_mem _ (List.mem_append_right _ h)) (by decide +kernel))
set_option maxRecDepth 20000 in
theorem gX9_hands_X9_needFamily : GoodIn wsX9_hands (wsV RX9 104 RX9 yX9_needFamily wsX9_needFamily) := goodIn_app (goodIn_of _ (by decide +kernel)) ggX9_hands_X9_needFamily
set_option maxRecDepth 20000 in
theorem ggX9_hands_X9_isWithin : GoodIn wsX9_hands wsX9_isWithin := goodIn_r _ [13] (by decide +kernel) (by decide +kernel)
set_option maxRecDepth 20000 in
theorem gX9_hands_X9_isWithin : GoodIn wsX9_hands (va_wsS RX9 118 yX9_isWithin wsX9_isWithin) := goodIn_app (goodIn_of _ (by decide +kernel)) ggX9_hands_X9_isWithin
theorem dX9_hands_0 : decode cX9_hands 0 = .ok (.aload_n 0, 1) := by decide +kernel
theorem dX9_hands_1 : decode cX9_hands 1 = .ok (.iload_n 1, 1) := by decide +kernel
theorem dX9_hands_2 : decode cX9_hands 2 = .ok (.invokevirtual 104, 3) := by decide +kernel
theorem dX9_hands_5 : decode cX9_hands 5 = .ok (.astore_n 3, 1) := by decide +kernel
theorem dX9_hands_6 : decode cX9_hands 6 = .ok (.iload_n 2, 1) := by decide +kernel
theorem dX9_hands_7 : decode cX9_hands 7 = .ok (.iconst 0, 1) := by decide +kernel
theorem dX9_hands_8 : decode cX9_hands 8 = .ok (.bipush 20, 2) := by decide +kernel
theorem dX9_hands_10 : decode cX9_hands 10 = .ok (.invokestatic 118, 3) := by decide +kernel
theorem dX9_hands_13 : decode cX9_hands 13 = .ok (.ifCond .ne 13, 3) := by decide +kernel
theorem dX9_hands_16 : decode cX9_hands 16 = .ok (.new 90, 3) := by decide +kernel
theorem dX9_hands_19 : decode cX9_hands 19 = .ok (.dup, 1) := by decide +kernel
theorem dX9_hands_20 : decode cX9_hands 20 = .ok (.ldc 142, 2) := by decide +kernel
theorem dX9_hands_22 : decode cX9_hands 22 = .ok (.invokespecial 94, 3) := by decide +kernel
theorem dX9_hands_25 : decode cX9_hands 25 = .ok (.athrow, 1) := by decide +kernel
theorem dX9_hands_26 : decode cX9_hands 26 = .ok (.aload_n 3, 1) := by decide +kernel
theorem dX9_hands_27 : decode cX9_hands 27 = .ok (.iload_n 2, 1) := by decide +kernel
theorem dX9_hands_28 : decode cX9_hands 28 = .ok (.putfield 144, 3) := by decide +kernel
theorem dX9_hands_31 : decode cX9_hands 31 = .ok (.return_, 1) := by decide +kernel
set_option maxRecDepth 20000 in
theorem ggX9_look_X9_needShore : GoodIn wsX9_look wsX9_needShore := goodIn_ca (goodIn_r _ [7, 8, 9, 10, 23, 24, 25, 26, 27, 28, 29, 30, 31, 32, 33, 34, 35, 36, 37, 38] (by decide +kernel) (by decide +kernel)) (goodIn_sub (fun _ h => List.mem_cons_of_mem _ (List.mem_append_right _ h)) (by decide +kernel))
set_option maxRecDepth 20000 in
theorem gX9_look_X9_needShore : GoodIn wsX9_look (wsV RX9 100 RX9 yX9_needShore wsX9_needShore) := goodIn_app (goodIn_of _ (by decide +kernel)) ggX9_look_X9_needShore
set_option maxRecDepth 20000 in
theorem ggX9_look_X9_needRock : GoodIn wsX9_look wsX9_needRock := goodIn_ca (goodIn_r _ [13, 8, 9, 39, 40, 41] (by decide +kernel) (by decide +kernel)) (goodIn_sub (fun _ h => List.mem_cons_of_mem _ (List.mem_append_right _ h)) (by decide +kernel))
set_option maxRecDepth 20000 in
theorem gX9_look_X9_needRock : GoodIn wsX9_look (va_wsS RX9 147 yX9_needRock wsX9_needRock) := goodIn_app (goodIn_of _ (by decide +kernel)) ggX9_look_X9_needRock
theorem dX9_look_0 : decode cX9_look 0 = .ok (.aload_n 0, 1) := by decide +kernel
theorem dX9_look_1 : decode cX9_look 1 = .ok (.iload_n 1, 1) := by decide +kernel
theorem dX9_look_2 : decode cX9_look 2 = .ok (.invokevirtual 100, 3) := by decide +kernel
theorem dX9_look_5 : decode cX9_look 5 = .ok (.iload_n 2, 1) := by decide +kernel
theorem dX9_look_6 : decode cX9_look 6 = .ok (.invokestatic 147, 3) := by decide +kernel
theorem dX9_look_9 : decode cX9_look 9 = .ok (.astore 4, 2) := by decide +kernel
theorem dX9_look_11 : decode cX9_look 11 = .ok (.iload_n 3, 1) := by decide +kernel
theorem dX9_look_12 : decode cX9_look 12 = .ok (.tableswitch 66 0 4 #[36, 42, 48, 54, 60], 36) := by decide +kernel
theorem dX9_look_48 : decode cX9_look 48 = .ok (.aload 4, 2) := by decide +kernel
theorem dX9_look_50 : decode cX9_look 50 = .ok (.getfield 151, 3) := by decide +kernel
theorem dX9_look_53 : decode cX9_look 53 = .ok (.ireturn, 1) := by decide +kernel
theorem dX9_look_54 : decode cX9_look 54 = .ok (.aload 4, 2) := by decide +kernel
theorem dX9_look_56 : decode cX9_look 56 = .ok (.getfield 154, 3) := by decide +kernel
theorem dX9_look_59 : decode cX9_look 59 = .ok (.ireturn, 1) := by decide +kernel
theorem dX9_look_60 : decode cX9_look 60 = .ok (.aload 4, 2) := by decide +kernel
theorem dX9_look_62 : decode cX9_look 62 = .ok (.getfield 157, 3) := by decide +kernel
theorem dX9_look_65 : decode cX9_look 65 = .ok (.ireturn, 1) := by decide +kernel
theorem dX9_look_66 : decode cX9_look 66 = .ok (.aload 4, 2) := by decide +kernel
theorem dX9_look_68 : decode cX9_look 68 = .ok (.getfield 160, 3) := by decide +kernel
theorem dX9_look_71 : decode cX9_look 71 = .ok (.ireturn, 1) := by decide +kernel
theorem dX9_look_72 : decode cX9_look 72 = .ok (.aload 4, 2) := by decide +kernel
theorem dX9_look_74 : decode cX9_look 74 = .ok (.getfield 163, 3) := by decide +kernel
theorem dX9_look_77 : decode cX9_look 77 = .ok (.ireturn, 1) := by decide +kernel
theorem dX9_look_78 : decode cX9_look 78 = .ok (.new 166, 3) := by decide +kernel
theorem dX9_look_81 : decode cX9_look 81 = .ok (.dup, 1) := by decide +kernel
theorem dX9_look_82 : decode cX9_look 82 = .ok (.ldc 168, 2) := by decide +kernel
theorem dX9_look_84 : decode cX9_look 84 = .ok (.invokespecial 170, 3) := by decide +kernel
theorem dX9_look_87 : decode cX9_look 87 = .ok (.athrow, 1) := by decide +kernel
set_option maxRecDepth 20000 in
theorem ggX9_cast_X9_needShore : GoodIn wsX9_cast wsX9_needShore := goodIn_ca (goodIn_r _ [5, 6, 7, 8, 12, 13, 14, 15, 16, 17, 18, 19, 20, 21, 22, 23, 24, 25, 26, 27] (by decide +kernel) (by decide +kernel)) (goodIn_sub (fun _ h => List.mem_cons_of_mem _ (List.mem_append_right _ h)) (by decide +kernel))
set_option maxRecDepth 20000 in
theorem gX9_cast_X9_needShore : GoodIn wsX9_cast (wsV RX9 100 RX9 yX9_needShore wsX9_needShore) := goodIn_app (goodIn_of _ (by decide +kernel)) ggX9_cast_X9_needShore
theorem dX9_cast_0 : decode cX9_cast 0 = .ok (.aload_n 0, 1) := by decide +kernel
theorem dX9_cast_1 : decode cX9_cast 1 = .ok (.iload_n 1, 1) := by decide +kernel
theorem dX9_cast_2 : decode cX9_cast 2 = .ok (.invokevirtual 100, 3) := by decide +kernel
theorem dX9_cast_5 : decode cX9_cast 5 = .ok (.getfield 171, 3) := by decide +kernel
theorem dX9_cast_8 : decode cX9_cast 8 = .ok (.ireturn, 1) := by decide +kernel
set_option maxRecDepth 20000 in
theorem ggX9_has_X9_needFamily : GoodIn wsX9_has wsX9_needFamily := goodIn_ca (goodIn_r _ [7, 8, 9, 10, 30, 31, 32, 33, 34, 35, 36, 37, 38, 39, 40, 41, 42, 43, 44, 45] (by decide +kernel) (by decide +kernel)) (goodIn_sub (fun _ h => List.mem_cons_of_mem _ (List.mem_append_right _ h)) (by decide +kernel))
set_option maxRecDepth 20000 in
theorem gX9_has_X9_needFamily : GoodIn wsX9_has (wsV RX9 104 RX9 yX9_needFamily wsX9_needFamily) := goodIn_app (goodIn_of _ (by decide +kernel)) ggX9_has_X9_needFamily
set_option maxRecDepth 20000 in
theorem ggX9_has_X0_workLeft : GoodIn wsX9_has wsX0_workLeft := goodIn_r _ [15, 16, 17, 18, 19, 20, 21, 22, 23, 24, 25, 26, 27, 28, 29] (by decide +kernel) (by decide +kernel)
set_option maxRecDepth 20000 in
theorem gX9_has_X0_workLeft : GoodIn wsX9_has (wsV RX9 183 RX0 yX0_workLeft wsX0_workLeft) := goodIn_app (goodIn_of _ (by decide +kernel)) ggX9_has_X0_workLeft
theorem dX9_has_0 : decode cX9_has 0 = .ok (.aload_n 0, 1) := by decide +kernel
theorem dX9_has_1 : decode cX9_has 1 = .ok (.iload_n 1, 1) := by decide +kernel
theorem dX9_has_2 : decode cX9_has 2 = .ok (.invokevirtual 104, 3) := by decide +kernel
theorem dX9_has_5 : decode cX9_has 5 = .ok (.astore_n 3, 1) := by decide +kernel
theorem dX9_has_6 : decode cX9_has 6 = .ok (.iload_n 2, 1) := by decide +kernel
theorem dX9_has_7 : decode cX9_has 7 = .ok (.tableswitch 76 0 6 #[41, 46, 51, 56, 61, 66, 71], 41) := by decide +kernel
theorem dX9_has_48 : decode cX9_has 48 = .ok (.aload_n 3, 1) := by decide +kernel
theorem dX9_has_49 : decode cX9_has 49 = .ok (.getfield 174, 3) := by decide +kernel
theorem dX9_has_52 : decode cX9_has 52 = .ok (.ireturn, 1) := by decide +kernel
theorem dX9_has_53 : decode cX9_has 53 = .ok (.aload_n 3, 1) := by decide +kernel
theorem dX9_has_54 : decode cX9_has 54 = .ok (.getfield 177, 3) := by decide +kernel
theorem dX9_has_57 : decode cX9_has 57 = .ok (.ireturn, 1) := by decide +kernel
theorem dX9_has_58 : decode cX9_has 58 = .ok (.aload_n 3, 1) := by decide +kernel
theorem dX9_has_59 : decode cX9_has 59 = .ok (.getfield 180, 3) := by decide +kernel
theorem dX9_has_62 : decode cX9_has 62 = .ok (.ireturn, 1) := by decide +kernel
theorem dX9_has_63 : decode cX9_has 63 = .ok (.aload_n 3, 1) := by decide +kernel
theorem dX9_has_64 : decode cX9_has 64 = .ok (.invokevirtual 183, 3) := by decide +kernel
theorem dX9_has_67 : decode cX9_has 67 = .ok (.ireturn, 1) := by decide +kernel
theorem dX9_has_68 : decode cX9_has 68 = .ok (.aload_n 3, 1) := by decide +kernel
theorem dX9_has_69 : decode cX9_has 69 = .ok (.getfield 187, 3) := by decide +kernel
theorem dX9_has_72 : decode cX9_has 72 = .ok (.ireturn, 1) := by decide +kernel
theorem dX9_has_73 : decode cX9_has 73 = .ok (.aload_n 3, 1) := by decide +kernel
theorem dX9_has_74 : decode cX9_has 74 = .ok (.getfield 190, 3) := by decide +kernel
theorem dX9_has_77 : decode cX9_has 77 = .ok (.ireturn, 1) := by decide +kernel
theorem dX9_has_78 : decode cX9_has 78 = .ok (.aload_n 3, 1) := by decide +kernel
theorem dX9_has_79 : decode cX9_has 79 = .ok (.getfield 144, 3) := by decide +kernel
theorem dX9_has_82 : decode cX9_has 82 = .ok (.ireturn, 1) := by decide +kernel
theorem dX9_has_83 : decode cX9_has 83 = .ok (.new 166, 3) := by decide +kernel
theorem dX9_has_86 : decode cX9_has 86 = .ok (.dup, 1) := by decide +kernel
theorem dX9_has_87 : decode cX9_has 87 = .ok (.ldc 193, 2) := by decide +kernel
theorem dX9_has_89 : decode cX9_has 89 = .ok (.invokespecial 170, 3) := by decide +kernel
theorem dX9_has_92 : decode cX9_has 92 = .ok (.athrow, 1) := by decide +kernel
set_option maxRecDepth 20000 in
theorem ggX9_owes_X9_needFamily : GoodIn wsX9_owes wsX9_needFamily := goodIn_ca (goodIn_r _ [5, 6, 7, 8, 25, 26, 27, 28, 29, 30, 31, 32, 33, 34, 35, 36, 37, 38, 39, 40] (by decide +kernel) (by decide +kernel)) (goodIn_sub (fun _ h => List.mem_cons_of_mem _ (List.mem_append_right _ h)) (by decide +kernel))
set_option maxRecDepth 20000 in
theorem gX9_owes_X9_needFamily : GoodIn wsX9_owes (wsV RX9 104 RX9 yX9_needFamily wsX9_needFamily) := goodIn_app (goodIn_of _ (by decide +kernel)) ggX9_owes_X9_needFamily
set_option maxRecDepth 20000 in
theorem ggX9_owes_X9_needShore : GoodIn wsX9_owes wsX9_needShore := goodIn_ca (goodIn_r _ [12, 6, 7, 13, 25, 26, 27, 28, 29, 30, 31, 32, 33, 34, 35, 36, 37, 38, 39, 40] (by decide +kernel) (by decide +kernel)) (goodIn_sub (fun _ h => List.mem_cons_of_mem _ (List.mem_append_right _ h)) (by decide +kernel))
set_option maxRecDepth 20000 in
theorem gX9_owes_X9_needShore : GoodIn wsX9_owes (wsV RX9 100 RX9 yX9_needShore wsX9_needShore) := goodIn_app (goodIn_of _ (by decide +kernel)) ggX9_owes_X9_needShore
set_option maxRecDepth 20000 in
theorem ggX9_owes_X0_owedFor : GoodIn wsX9_owes wsX0_owedFor := goodIn_r _ [18, 19, 20, 21, 17, 22, 23, 4, 24, 41, 42, 43, 44, 45, 46, 47, 48] (by decide +kernel) (by decide +kernel)
set_option maxRecDepth 20000 in
theorem gX9_owes_X0_owedFor : GoodIn wsX9_owes (wsV RX9 195 RX0 yX0_owedFor wsX0_owedFor) := goodIn_app (goodIn_of _ (by decide +kernel)) ggX9_owes_X0_owedFor
theorem dX9_owes_0 : decode cX9_owes 0 = .ok (.aload_n 0, 1) := by decide +kernel
theorem dX9_owes_1 : decode cX9_owes 1 = .ok (.iload_n 1, 1) := by decide +kernel
theorem dX9_owes_2 : decode cX9_owes 2 = .ok (.invokevirtual 104, 3) := by decide +kernel
theorem dX9_owes_5 : decode cX9_owes 5 = .ok (.astore 4, 2) := by decide +kernel
theorem dX9_owes_7 : decode cX9_owes 7 = .ok (.aload_n 0, 1) := by decide +kernel
theorem dX9_owes_8 : decode cX9_owes 8 = .ok (.iload_n 2, 1) := by decide +kernel
theorem dX9_owes_9 : decode cX9_owes 9 = .ok (.invokevirtual 100, 3) := by decide +kernel
theorem dX9_owes_12 : decode cX9_owes 12 = .ok (.pop, 1) := by decide +kernel
theorem dX9_owes_13 : decode cX9_owes 13 = .ok (.aload 4, 2) := by decide +kernel
theorem dX9_owes_15 : decode cX9_owes 15 = .ok (.iload_n 2, 1) := by decide +kernel
theorem dX9_owes_16 : decode cX9_owes 16 = .ok (.iload_n 3, 1) := by decide +kernel
theorem dX9_owes_17 : decode cX9_owes 17 = .ok (.invokevirtual 195, 3) := by decide +kernel
theorem dX9_owes_20 : decode cX9_owes 20 = .ok (.ireturn, 1) := by decide +kernel
set_option maxRecDepth 20000 in
theorem ggX9_day_X9_isWeather : GoodIn wsX9_day wsX9_isWeather := goodIn_r _ [11, 12, 13, 10, 14] (by decide +kernel) (by decide +kernel)
set_option maxRecDepth 20000 in
theorem gX9_day_X9_isWeather : GoodIn wsX9_day (va_wsS RX9 199 yX9_isWeather wsX9_isWeather) := goodIn_app (goodIn_of _ (by decide +kernel)) ggX9_day_X9_isWeather
set_option maxRecDepth 20000 in
theorem ggX9_day_X9_passOverShores : GoodIn wsX9_day wsX9_passOverShores := goodIn_r _ [18, 5, 19, 20, 21, 22, 23, 24, 25, 26, 27, 28, 29, 30, 31, 32, 33, 34, 35, 36, 37, 38, 39, 40, 70, 71, 72, 73, 74, 75, 76, 77, 78, 79, 80, 81, 82, 83, 84, 85, 94, 95, 96, 97, 98, 99, 100, 101, 102, 103, 104, 105] (by decide +kernel) (by decide +kernel)
set_option maxRecDepth 20000 in
theorem gX9_day_X9_passOverShores : GoodIn wsX9_day (wsV RX9 213 RX9 yX9_passOverShores wsX9_passOverShores) := goodIn_app (goodIn_of _ (by decide +kernel)) ggX9_day_X9_passOverShores
set_option maxRecDepth 20000 in
theorem ggX9_day_X9_passOverFamilies : GoodIn wsX9_day wsX9_passOverFamilies := goodIn_r _ [44, 7, 45, 46, 47, 48, 49, 50, 51, 52, 53, 54, 55, 56, 70, 71, 72, 73, 74, 75, 76, 77, 78, 79, 80, 81, 82, 83, 84, 85, 86, 87, 88, 89, 90, 91, 92, 93] (by decide +kernel) (by decide +kernel)
set_option maxRecDepth 20000 in
theorem gX9_day_X9_passOverFamilies : GoodIn wsX9_day (wsV RX9 216 RX9 yX9_passOverFamilies wsX9_passOverFamilies) := goodIn_app (goodIn_of _ (by decide +kernel)) ggX9_day_X9_passOverFamilies
set_option maxRecDepth 20000 in
theorem ggX9_day_X9_passOverPits : GoodIn wsX9_day wsX9_passOverPits := goodIn_r _ [60, 61, 62, 63, 64, 65, 66, 67, 68, 69, 70, 71, 72, 73, 74, 75, 76, 77, 78, 79, 80, 81, 82, 83, 84, 85, 106, 107, 108, 86, 87, 88, 89, 90, 91, 92, 93] (by decide +kernel) (by decide +kernel)
set_option maxRecDepth 20000 in
theorem gX9_day_X9_passOverPits : GoodIn wsX9_day (wsV RX9 219 RX9 yX9_passOverPits wsX9_passOverPits) := goodIn_app (goodIn_of _ (by decide +kernel)) ggX9_day_X9_passOverPits
theorem dX9_day_0 : decode cX9_day 0 = .ok (.iload_n 1, 1) := by decide +kernel
theorem dX9_day_1 : decode cX9_day 1 = .ok (.invokestatic 199, 3) := by decide +kernel
theorem dX9_day_4 : decode cX9_day 4 = .ok (.ifCond .eq 25, 3) := by decide +kernel
theorem dX9_day_7 : decode cX9_day 7 = .ok (.iload_n 2, 1) := by decide +kernel
theorem dX9_day_8 : decode cX9_day 8 = .ok (.invokestatic 199, 3) := by decide +kernel
theorem dX9_day_11 : decode cX9_day 11 = .ok (.ifCond .eq 18, 3) := by decide +kernel
theorem dX9_day_14 : decode cX9_day 14 = .ok (.iload_n 3, 1) := by decide +kernel
theorem dX9_day_15 : decode cX9_day 15 = .ok (.invokestatic 199, 3) := by decide +kernel
theorem dX9_day_18 : decode cX9_day 18 = .ok (.ifCond .eq 11, 3) := by decide +kernel
theorem dX9_day_21 : decode cX9_day 21 = .ok (.iload 4, 2) := by decide +kernel
theorem dX9_day_23 : decode cX9_day 23 = .ok (.invokestatic 199, 3) := by decide +kernel
theorem dX9_day_26 : decode cX9_day 26 = .ok (.ifCond .ne 13, 3) := by decide +kernel
theorem dX9_day_29 : decode cX9_day 29 = .ok (.new 90, 3) := by decide +kernel
theorem dX9_day_32 : decode cX9_day 32 = .ok (.dup, 1) := by decide +kernel
theorem dX9_day_33 : decode cX9_day 33 = .ok (.ldc 203, 2) := by decide +kernel
theorem dX9_day_35 : decode cX9_day 35 = .ok (.invokespecial 94, 3) := by decide +kernel
theorem dX9_day_38 : decode cX9_day 38 = .ok (.athrow, 1) := by decide +kernel
theorem dX9_day_39 : decode cX9_day 39 = .ok (.aload_n 0, 1) := by decide +kernel
theorem dX9_day_40 : decode cX9_day 40 = .ok (.getfield 205, 3) := by decide +kernel
theorem dX9_day_43 : decode cX9_day 43 = .ok (.sipush 9999, 3) := by decide +kernel
theorem dX9_day_46 : decode cX9_day 46 = .ok (.if_icmp .lt 13, 3) := by decide +kernel
theorem dX9_day_49 : decode cX9_day 49 = .ok (.new 112, 3) := by decide +kernel
theorem dX9_day_52 : decode cX9_day 52 = .ok (.dup, 1) := by decide +kernel
theorem dX9_day_53 : decode cX9_day 53 = .ok (.ldc 208, 2) := by decide +kernel
theorem dX9_day_55 : decode cX9_day 55 = .ok (.invokespecial 116, 3) := by decide +kernel
theorem dX9_day_58 : decode cX9_day 58 = .ok (.athrow, 1) := by decide +kernel
theorem dX9_day_59 : decode cX9_day 59 = .ok (.aload_n 0, 1) := by decide +kernel
theorem dX9_day_60 : decode cX9_day 60 = .ok (.dup, 1) := by decide +kernel
theorem dX9_day_61 : decode cX9_day 61 = .ok (.getfield 205, 3) := by decide +kernel
theorem dX9_day_64 : decode cX9_day 64 = .ok (.iconst 1, 1) := by decide +kernel
theorem dX9_day_65 : decode cX9_day 65 = .ok (.iadd, 1) := by decide +kernel
theorem dX9_day_66 : decode cX9_day 66 = .ok (.putfield 205, 3) := by decide +kernel
theorem dX9_day_69 : decode cX9_day 69 = .ok (.aload_n 0, 1) := by decide +kernel
theorem dX9_day_70 : decode cX9_day 70 = .ok (.iload_n 1, 1) := by decide +kernel
theorem dX9_day_71 : decode cX9_day 71 = .ok (.putfield 210, 3) := by decide +kernel
theorem dX9_day_74 : decode cX9_day 74 = .ok (.aload_n 0, 1) := by decide +kernel
theorem dX9_day_75 : decode cX9_day 75 = .ok (.iload 4, 2) := by decide +kernel
theorem dX9_day_77 : decode cX9_day 77 = .ok (.invokevirtual 213, 3) := by decide +kernel
theorem dX9_day_80 : decode cX9_day 80 = .ok (.aload_n 0, 1) := by decide +kernel
theorem dX9_day_81 : decode cX9_day 81 = .ok (.iload_n 2, 1) := by decide +kernel
theorem dX9_day_82 : decode cX9_day 82 = .ok (.iload_n 3, 1) := by decide +kernel
theorem dX9_day_83 : decode cX9_day 83 = .ok (.invokevirtual 216, 3) := by decide +kernel
theorem dX9_day_86 : decode cX9_day 86 = .ok (.aload_n 0, 1) := by decide +kernel
theorem dX9_day_87 : decode cX9_day 87 = .ok (.iload_n 3, 1) := by decide +kernel
theorem dX9_day_88 : decode cX9_day 88 = .ok (.invokevirtual 219, 3) := by decide +kernel
theorem dX9_day_91 : decode cX9_day 91 = .ok (.aload_n 0, 1) := by decide +kernel
theorem dX9_day_92 : decode cX9_day 92 = .ok (.getfield 38, 3) := by decide +kernel
theorem dX9_day_95 : decode cX9_day 95 = .ok (.astore 5, 2) := by decide +kernel
theorem dX9_day_97 : decode cX9_day 97 = .ok (.aload 5, 2) := by decide +kernel
theorem dX9_day_99 : decode cX9_day 99 = .ok (.arraylength, 1) := by decide +kernel
theorem dX9_day_100 : decode cX9_day 100 = .ok (.istore 6, 2) := by decide +kernel
theorem dX9_day_102 : decode cX9_day 102 = .ok (.iconst 0, 1) := by decide +kernel
theorem dX9_day_103 : decode cX9_day 103 = .ok (.istore 7, 2) := by decide +kernel
theorem dX9_day_105 : decode cX9_day 105 = .ok (.iload 7, 2) := by decide +kernel
theorem dX9_day_107 : decode cX9_day 107 = .ok (.iload 6, 2) := by decide +kernel
theorem dX9_day_109 : decode cX9_day 109 = .ok (.if_icmp .ge 22, 3) := by decide +kernel
theorem dX9_day_112 : decode cX9_day 112 = .ok (.aload 5, 2) := by decide +kernel
theorem dX9_day_114 : decode cX9_day 114 = .ok (.iload 7, 2) := by decide +kernel
