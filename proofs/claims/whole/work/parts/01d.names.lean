theorem dX8_readsRight_104 : decode cX8_readsRight 104 = .ok (.aload_n 0, 1) := by decide +kernel
theorem dX8_readsRight_105 : decode cX8_readsRight 105 = .ok (.iconst 0, 1) := by decide +kernel
theorem dX8_readsRight_106 : decode cX8_readsRight 106 = .ok (.bipush 100, 2) := by decide +kernel
theorem dX8_readsRight_108 : decode cX8_readsRight 108 = .ok (.invokevirtual 53, 3) := by decide +kernel
theorem dX8_readsRight_111 : decode cX8_readsRight 111 = .ok (.istore 7, 2) := by decide +kernel
theorem dX8_readsRight_113 : decode cX8_readsRight 113 = .ok (.iload 7, 2) := by decide +kernel
theorem dX8_readsRight_115 : decode cX8_readsRight 115 = .ok (.iconst (-1), 1) := by decide +kernel
theorem dX8_readsRight_116 : decode cX8_readsRight 116 = .ok (.if_icmp .ne 5, 3) := by decide +kernel
theorem dX8_readsRight_119 : decode cX8_readsRight 119 = .ok (.iconst 0, 1) := by decide +kernel
theorem dX8_readsRight_120 : decode cX8_readsRight 120 = .ok (.ireturn, 1) := by decide +kernel
theorem dX8_readsRight_121 : decode cX8_readsRight 121 = .ok (.aload_n 1, 1) := by decide +kernel
theorem dX8_readsRight_122 : decode cX8_readsRight 122 = .ok (.iload_n 3, 1) := by decide +kernel
theorem dX8_readsRight_123 : decode cX8_readsRight 123 = .ok (.iload 4, 2) := by decide +kernel
theorem dX8_readsRight_125 : decode cX8_readsRight 125 = .ok (.iload 5, 2) := by decide +kernel
theorem dX8_readsRight_127 : decode cX8_readsRight 127 = .ok (.iload 6, 2) := by decide +kernel
theorem dX8_readsRight_129 : decode cX8_readsRight 129 = .ok (.iload 7, 2) := by decide +kernel
theorem dX8_readsRight_131 : decode cX8_readsRight 131 = .ok (.invokevirtual 67, 3) := by decide +kernel
theorem dX8_readsRight_134 : decode cX8_readsRight 134 = .ok (.iconst 1, 1) := by decide +kernel
theorem dX8_readsRight_135 : decode cX8_readsRight 135 = .ok (.ireturn, 1) := by decide +kernel
theorem dX8_byteAt_0 : decode cX8_byteAt 0 = .ok (.iload_n 1, 1) := by decide +kernel
theorem dX8_byteAt_1 : decode cX8_byteAt 1 = .ok (.ifCond .lt 20, 3) := by decide +kernel
theorem dX8_byteAt_4 : decode cX8_byteAt 4 = .ok (.iload_n 1, 1) := by decide +kernel
theorem dX8_byteAt_5 : decode cX8_byteAt 5 = .ok (.aload_n 0, 1) := by decide +kernel
theorem dX8_byteAt_6 : decode cX8_byteAt 6 = .ok (.getfield 15, 3) := by decide +kernel
theorem dX8_byteAt_9 : decode cX8_byteAt 9 = .ok (.if_icmp .ge 12, 3) := by decide +kernel
theorem dX8_byteAt_12 : decode cX8_byteAt 12 = .ok (.iload_n 1, 1) := by decide +kernel
theorem dX8_byteAt_13 : decode cX8_byteAt 13 = .ok (.aload_n 0, 1) := by decide +kernel
theorem dX8_byteAt_14 : decode cX8_byteAt 14 = .ok (.getfield 9, 3) := by decide +kernel
theorem dX8_byteAt_17 : decode cX8_byteAt 17 = .ok (.arraylength, 1) := by decide +kernel
theorem dX8_byteAt_18 : decode cX8_byteAt 18 = .ok (.if_icmp .lt 7, 3) := by decide +kernel
theorem dX8_byteAt_21 : decode cX8_byteAt 21 = .ok (.iconst (-1), 1) := by decide +kernel
theorem dX8_byteAt_22 : decode cX8_byteAt 22 = .ok (.goto 9, 3) := by decide +kernel
theorem dX8_byteAt_25 : decode cX8_byteAt 25 = .ok (.aload_n 0, 1) := by decide +kernel
theorem dX8_byteAt_26 : decode cX8_byteAt 26 = .ok (.getfield 9, 3) := by decide +kernel
theorem dX8_byteAt_29 : decode cX8_byteAt 29 = .ok (.iload_n 1, 1) := by decide +kernel
theorem dX8_byteAt_30 : decode cX8_byteAt 30 = .ok (.iaload, 1) := by decide +kernel
theorem dX8_byteAt_31 : decode cX8_byteAt 31 = .ok (.ireturn, 1) := by decide +kernel
set_option maxRecDepth 20000 in
theorem ggX8_skipBlanks_X8_byteAt : GoodIn wsX8_skipBlanks wsX8_byteAt := goodIn_r _ [7, 2, 8, 9, 10, 11] (by decide +kernel) (by decide +kernel)
set_option maxRecDepth 20000 in
theorem gX8_skipBlanks_X8_byteAt : GoodIn wsX8_skipBlanks (wsV RX8 34 RX8 yX8_byteAt wsX8_byteAt) := goodIn_app (goodIn_of _ (by decide +kernel)) ggX8_skipBlanks_X8_byteAt
theorem dX8_skipBlanks_0 : decode cX8_skipBlanks 0 = .ok (.aload_n 0, 1) := by decide +kernel
theorem dX8_skipBlanks_1 : decode cX8_skipBlanks 1 = .ok (.getfield 24, 3) := by decide +kernel
theorem dX8_skipBlanks_4 : decode cX8_skipBlanks 4 = .ok (.aload_n 0, 1) := by decide +kernel
theorem dX8_skipBlanks_5 : decode cX8_skipBlanks 5 = .ok (.getfield 15, 3) := by decide +kernel
theorem dX8_skipBlanks_8 : decode cX8_skipBlanks 8 = .ok (.if_icmp .ge 29, 3) := by decide +kernel
theorem dX8_skipBlanks_11 : decode cX8_skipBlanks 11 = .ok (.aload_n 0, 1) := by decide +kernel
theorem dX8_skipBlanks_12 : decode cX8_skipBlanks 12 = .ok (.aload_n 0, 1) := by decide +kernel
theorem dX8_skipBlanks_13 : decode cX8_skipBlanks 13 = .ok (.getfield 24, 3) := by decide +kernel
theorem dX8_skipBlanks_16 : decode cX8_skipBlanks 16 = .ok (.invokevirtual 34, 3) := by decide +kernel
theorem dX8_skipBlanks_19 : decode cX8_skipBlanks 19 = .ok (.bipush 32, 2) := by decide +kernel
theorem dX8_skipBlanks_21 : decode cX8_skipBlanks 21 = .ok (.if_icmp .ne 16, 3) := by decide +kernel
theorem dX8_skipBlanks_24 : decode cX8_skipBlanks 24 = .ok (.aload_n 0, 1) := by decide +kernel
theorem dX8_skipBlanks_25 : decode cX8_skipBlanks 25 = .ok (.dup, 1) := by decide +kernel
theorem dX8_skipBlanks_26 : decode cX8_skipBlanks 26 = .ok (.getfield 24, 3) := by decide +kernel
theorem dX8_skipBlanks_29 : decode cX8_skipBlanks 29 = .ok (.iconst 1, 1) := by decide +kernel
theorem dX8_skipBlanks_30 : decode cX8_skipBlanks 30 = .ok (.iadd, 1) := by decide +kernel
theorem dX8_skipBlanks_31 : decode cX8_skipBlanks 31 = .ok (.putfield 24, 3) := by decide +kernel
theorem dX8_skipBlanks_34 : decode cX8_skipBlanks 34 = .ok (.goto (-34), 3) := by decide +kernel
theorem dX8_skipBlanks_37 : decode cX8_skipBlanks 37 = .ok (.return_, 1) := by decide +kernel
set_option maxRecDepth 20000 in
theorem ggX8_takesWord_X8_skipBlanks : GoodIn wsX8_takesWord wsX8_skipBlanks := goodIn_r _ [6, 1, 7, 8, 9, 10, 5, 11, 12, 65, 66, 67] (by decide +kernel) (by decide +kernel)
set_option maxRecDepth 20000 in
theorem gX8_takesWord_X8_skipBlanks : GoodIn wsX8_takesWord (wsV RX8 31 RX8 yX8_skipBlanks wsX8_skipBlanks) := goodIn_app (goodIn_of _ (by decide +kernel)) ggX8_takesWord_X8_skipBlanks
set_option maxRecDepth 20000 in
theorem ggX8_takesWord_J0_length_8abf5 : GoodIn wsX8_takesWord wsJ0_length_8abf5 := goodIn_r _ [17, 18, 19, 20, 21, 16, 22, 23, 24] (by decide +kernel) (by decide +kernel)
set_option maxRecDepth 20000 in
theorem gX8_takesWord_J0_length_8abf5 : GoodIn wsX8_takesWord (wsV RX8 71 RJ0 yJ0_length_8abf5 wsJ0_length_8abf5) := goodIn_app (goodIn_of _ (by decide +kernel)) ggX8_takesWord_J0_length_8abf5
set_option maxRecDepth 20000 in
theorem ggX8_takesWord_X8_byteAt : GoodIn wsX8_takesWord wsX8_byteAt := goodIn_r _ [11, 7, 12, 65, 66, 67] (by decide +kernel) (by decide +kernel)
set_option maxRecDepth 20000 in
theorem gX8_takesWord_X8_byteAt : GoodIn wsX8_takesWord (wsV RX8 34 RX8 yX8_byteAt wsX8_byteAt) := goodIn_app (goodIn_of _ (by decide +kernel)) ggX8_takesWord_X8_byteAt
set_option maxRecDepth 20000 in
theorem ggX8_takesWord_J0_charAt_5068e : GoodIn wsX8_takesWord wsJ0_charAt_5068e := goodIn_r _ [28, 18, 29, 30, 31, 16, 32, 23, 24, 33, 34, 35, 36, 37, 38, 39, 40, 41, 42, 43, 44, 45, 46, 47, 48, 49, 50, 51, 52, 53, 54, 55, 56, 57, 58, 59, 60, 61] (by decide +kernel) (by decide +kernel)
set_option maxRecDepth 20000 in
theorem gX8_takesWord_J0_charAt_5068e : GoodIn wsX8_takesWord (wsV RX8 76 RJ0 yJ0_charAt_5068e wsJ0_charAt_5068e) := goodIn_app (goodIn_of _ (by decide +kernel)) ggX8_takesWord_J0_charAt_5068e
set_option maxRecDepth 20000 in
theorem ggX8_takesWord_X9_isWithin : GoodIn wsX8_takesWord wsX9_isWithin := goodIn_r _ [64] (by decide +kernel) (by decide +kernel)
set_option maxRecDepth 20000 in
theorem gX8_takesWord_X9_isWithin_n80 : GoodIn wsX8_takesWord (wsX9_isWithin) := ggX8_takesWord_X9_isWithin
theorem dX8_takesWord_0 : decode cX8_takesWord 0 = .ok (.aload_n 0, 1) := by decide +kernel
theorem dX8_takesWord_1 : decode cX8_takesWord 1 = .ok (.invokevirtual 31, 3) := by decide +kernel
theorem dX8_takesWord_4 : decode cX8_takesWord 4 = .ok (.aload_n 1, 1) := by decide +kernel
theorem dX8_takesWord_5 : decode cX8_takesWord 5 = .ok (.invokevirtual 71, 3) := by decide +kernel
theorem dX8_takesWord_8 : decode cX8_takesWord 8 = .ok (.istore_n 2, 1) := by decide +kernel
theorem dX8_takesWord_9 : decode cX8_takesWord 9 = .ok (.iconst 0, 1) := by decide +kernel
theorem dX8_takesWord_10 : decode cX8_takesWord 10 = .ok (.istore_n 3, 1) := by decide +kernel
theorem dX8_takesWord_11 : decode cX8_takesWord 11 = .ok (.iload_n 3, 1) := by decide +kernel
theorem dX8_takesWord_12 : decode cX8_takesWord 12 = .ok (.iload_n 2, 1) := by decide +kernel
theorem dX8_takesWord_13 : decode cX8_takesWord 13 = .ok (.if_icmp .ge 29, 3) := by decide +kernel
theorem dX8_takesWord_16 : decode cX8_takesWord 16 = .ok (.aload_n 0, 1) := by decide +kernel
theorem dX8_takesWord_17 : decode cX8_takesWord 17 = .ok (.aload_n 0, 1) := by decide +kernel
theorem dX8_takesWord_18 : decode cX8_takesWord 18 = .ok (.getfield 24, 3) := by decide +kernel
theorem dX8_takesWord_21 : decode cX8_takesWord 21 = .ok (.iload_n 3, 1) := by decide +kernel
theorem dX8_takesWord_22 : decode cX8_takesWord 22 = .ok (.iadd, 1) := by decide +kernel
theorem dX8_takesWord_23 : decode cX8_takesWord 23 = .ok (.invokevirtual 34, 3) := by decide +kernel
theorem dX8_takesWord_26 : decode cX8_takesWord 26 = .ok (.aload_n 1, 1) := by decide +kernel
theorem dX8_takesWord_27 : decode cX8_takesWord 27 = .ok (.iload_n 3, 1) := by decide +kernel
theorem dX8_takesWord_28 : decode cX8_takesWord 28 = .ok (.invokevirtual 76, 3) := by decide +kernel
theorem dX8_takesWord_31 : decode cX8_takesWord 31 = .ok (.if_icmp .eq 5, 3) := by decide +kernel
theorem dX8_takesWord_34 : decode cX8_takesWord 34 = .ok (.iconst 0, 1) := by decide +kernel
theorem dX8_takesWord_35 : decode cX8_takesWord 35 = .ok (.ireturn, 1) := by decide +kernel
theorem dX8_takesWord_36 : decode cX8_takesWord 36 = .ok (.iinc 3 1, 3) := by decide +kernel
theorem dX8_takesWord_39 : decode cX8_takesWord 39 = .ok (.goto (-28), 3) := by decide +kernel
theorem dX8_takesWord_42 : decode cX8_takesWord 42 = .ok (.aload_n 0, 1) := by decide +kernel
theorem dX8_takesWord_43 : decode cX8_takesWord 43 = .ok (.aload_n 0, 1) := by decide +kernel
theorem dX8_takesWord_44 : decode cX8_takesWord 44 = .ok (.getfield 24, 3) := by decide +kernel
theorem dX8_takesWord_47 : decode cX8_takesWord 47 = .ok (.iload_n 2, 1) := by decide +kernel
theorem dX8_takesWord_48 : decode cX8_takesWord 48 = .ok (.iadd, 1) := by decide +kernel
theorem dX8_takesWord_49 : decode cX8_takesWord 49 = .ok (.invokevirtual 34, 3) := by decide +kernel
theorem dX8_takesWord_52 : decode cX8_takesWord 52 = .ok (.bipush 97, 2) := by decide +kernel
theorem dX8_takesWord_54 : decode cX8_takesWord 54 = .ok (.bipush 122, 2) := by decide +kernel
theorem dX8_takesWord_56 : decode cX8_takesWord 56 = .ok (.invokestatic 80, 3) := by decide +kernel
theorem dX8_takesWord_59 : decode cX8_takesWord 59 = .ok (.ifCond .eq 5, 3) := by decide +kernel
theorem dX8_takesWord_62 : decode cX8_takesWord 62 = .ok (.iconst 0, 1) := by decide +kernel
theorem dX8_takesWord_63 : decode cX8_takesWord 63 = .ok (.ireturn, 1) := by decide +kernel
theorem dX8_takesWord_64 : decode cX8_takesWord 64 = .ok (.aload_n 0, 1) := by decide +kernel
theorem dX8_takesWord_65 : decode cX8_takesWord 65 = .ok (.dup, 1) := by decide +kernel
theorem dX8_takesWord_66 : decode cX8_takesWord 66 = .ok (.getfield 24, 3) := by decide +kernel
theorem dX8_takesWord_69 : decode cX8_takesWord 69 = .ok (.iload_n 2, 1) := by decide +kernel
theorem dX8_takesWord_70 : decode cX8_takesWord 70 = .ok (.iadd, 1) := by decide +kernel
theorem dX8_takesWord_71 : decode cX8_takesWord 71 = .ok (.putfield 24, 3) := by decide +kernel
theorem dX8_takesWord_74 : decode cX8_takesWord 74 = .ok (.iconst 1, 1) := by decide +kernel
theorem dX8_takesWord_75 : decode cX8_takesWord 75 = .ok (.ireturn, 1) := by decide +kernel
set_option maxRecDepth 20000 in
theorem ggX8_takenNumber_X8_skipBlanks : GoodIn wsX8_takenNumber wsX8_skipBlanks := goodIn_r _ [6, 1, 7, 8, 9, 10, 5, 11, 12, 16, 17, 18] (by decide +kernel) (by decide +kernel)
set_option maxRecDepth 20000 in
theorem gX8_takenNumber_X8_skipBlanks : GoodIn wsX8_takenNumber (wsV RX8 31 RX8 yX8_skipBlanks wsX8_skipBlanks) := goodIn_app (goodIn_of _ (by decide +kernel)) ggX8_takenNumber_X8_skipBlanks
set_option maxRecDepth 20000 in
theorem ggX8_takenNumber_X8_byteAt : GoodIn wsX8_takenNumber wsX8_byteAt := goodIn_r _ [11, 7, 12, 16, 17, 18] (by decide +kernel) (by decide +kernel)
set_option maxRecDepth 20000 in
theorem gX8_takenNumber_X8_byteAt : GoodIn wsX8_takenNumber (wsV RX8 34 RX8 yX8_byteAt wsX8_byteAt) := goodIn_app (goodIn_of _ (by decide +kernel)) ggX8_takenNumber_X8_byteAt
set_option maxRecDepth 20000 in
theorem ggX8_takenNumber_X9_isWithin : GoodIn wsX8_takenNumber wsX9_isWithin := goodIn_r _ [15] (by decide +kernel) (by decide +kernel)
set_option maxRecDepth 20000 in
theorem gX8_takenNumber_X9_isWithin_n80 : GoodIn wsX8_takenNumber (wsX9_isWithin) := ggX8_takenNumber_X9_isWithin
theorem dX8_takenNumber_0 : decode cX8_takenNumber 0 = .ok (.aload_n 0, 1) := by decide +kernel
theorem dX8_takenNumber_1 : decode cX8_takenNumber 1 = .ok (.invokevirtual 31, 3) := by decide +kernel
theorem dX8_takenNumber_4 : decode cX8_takenNumber 4 = .ok (.iconst 0, 1) := by decide +kernel
theorem dX8_takenNumber_5 : decode cX8_takenNumber 5 = .ok (.istore_n 3, 1) := by decide +kernel
theorem dX8_takenNumber_6 : decode cX8_takenNumber 6 = .ok (.iconst 0, 1) := by decide +kernel
theorem dX8_takenNumber_7 : decode cX8_takenNumber 7 = .ok (.istore 4, 2) := by decide +kernel
theorem dX8_takenNumber_9 : decode cX8_takenNumber 9 = .ok (.iload_n 3, 1) := by decide +kernel
theorem dX8_takenNumber_10 : decode cX8_takenNumber 10 = .ok (.iconst 4, 1) := by decide +kernel
theorem dX8_takenNumber_11 : decode cX8_takenNumber 11 = .ok (.if_icmp .ge 50, 3) := by decide +kernel
theorem dX8_takenNumber_14 : decode cX8_takenNumber 14 = .ok (.aload_n 0, 1) := by decide +kernel
theorem dX8_takenNumber_15 : decode cX8_takenNumber 15 = .ok (.aload_n 0, 1) := by decide +kernel
theorem dX8_takenNumber_16 : decode cX8_takenNumber 16 = .ok (.getfield 24, 3) := by decide +kernel
theorem dX8_takenNumber_19 : decode cX8_takenNumber 19 = .ok (.iload_n 3, 1) := by decide +kernel
theorem dX8_takenNumber_20 : decode cX8_takenNumber 20 = .ok (.iadd, 1) := by decide +kernel
theorem dX8_takenNumber_21 : decode cX8_takenNumber 21 = .ok (.invokevirtual 34, 3) := by decide +kernel
theorem dX8_takenNumber_24 : decode cX8_takenNumber 24 = .ok (.bipush 48, 2) := by decide +kernel
theorem dX8_takenNumber_26 : decode cX8_takenNumber 26 = .ok (.bipush 57, 2) := by decide +kernel
theorem dX8_takenNumber_28 : decode cX8_takenNumber 28 = .ok (.invokestatic 80, 3) := by decide +kernel
theorem dX8_takenNumber_31 : decode cX8_takenNumber 31 = .ok (.ifCond .eq 30, 3) := by decide +kernel
theorem dX8_takenNumber_34 : decode cX8_takenNumber 34 = .ok (.iload 4, 2) := by decide +kernel
theorem dX8_takenNumber_36 : decode cX8_takenNumber 36 = .ok (.bipush 10, 2) := by decide +kernel
theorem dX8_takenNumber_38 : decode cX8_takenNumber 38 = .ok (.imul, 1) := by decide +kernel
theorem dX8_takenNumber_39 : decode cX8_takenNumber 39 = .ok (.aload_n 0, 1) := by decide +kernel
theorem dX8_takenNumber_40 : decode cX8_takenNumber 40 = .ok (.aload_n 0, 1) := by decide +kernel
theorem dX8_takenNumber_41 : decode cX8_takenNumber 41 = .ok (.getfield 24, 3) := by decide +kernel
theorem dX8_takenNumber_44 : decode cX8_takenNumber 44 = .ok (.iload_n 3, 1) := by decide +kernel
theorem dX8_takenNumber_45 : decode cX8_takenNumber 45 = .ok (.iadd, 1) := by decide +kernel
theorem dX8_takenNumber_46 : decode cX8_takenNumber 46 = .ok (.invokevirtual 34, 3) := by decide +kernel
theorem dX8_takenNumber_49 : decode cX8_takenNumber 49 = .ok (.iadd, 1) := by decide +kernel
theorem dX8_takenNumber_50 : decode cX8_takenNumber 50 = .ok (.bipush 48, 2) := by decide +kernel
theorem dX8_takenNumber_52 : decode cX8_takenNumber 52 = .ok (.isub, 1) := by decide +kernel
theorem dX8_takenNumber_53 : decode cX8_takenNumber 53 = .ok (.istore 4, 2) := by decide +kernel
theorem dX8_takenNumber_55 : decode cX8_takenNumber 55 = .ok (.iinc 3 1, 3) := by decide +kernel
theorem dX8_takenNumber_58 : decode cX8_takenNumber 58 = .ok (.goto (-49), 3) := by decide +kernel
theorem dX8_takenNumber_61 : decode cX8_takenNumber 61 = .ok (.iload_n 3, 1) := by decide +kernel
theorem dX8_takenNumber_62 : decode cX8_takenNumber 62 = .ok (.iconst 1, 1) := by decide +kernel
theorem dX8_takenNumber_63 : decode cX8_takenNumber 63 = .ok (.if_icmp .lt 18, 3) := by decide +kernel
theorem dX8_takenNumber_66 : decode cX8_takenNumber 66 = .ok (.iload_n 3, 1) := by decide +kernel
theorem dX8_takenNumber_67 : decode cX8_takenNumber 67 = .ok (.iconst 3, 1) := by decide +kernel
theorem dX8_takenNumber_68 : decode cX8_takenNumber 68 = .ok (.if_icmp .gt 13, 3) := by decide +kernel
theorem dX8_takenNumber_71 : decode cX8_takenNumber 71 = .ok (.iload 4, 2) := by decide +kernel
theorem dX8_takenNumber_73 : decode cX8_takenNumber 73 = .ok (.iload_n 1, 1) := by decide +kernel
theorem dX8_takenNumber_74 : decode cX8_takenNumber 74 = .ok (.iload_n 2, 1) := by decide +kernel
theorem dX8_takenNumber_75 : decode cX8_takenNumber 75 = .ok (.invokestatic 80, 3) := by decide +kernel
theorem dX8_takenNumber_78 : decode cX8_takenNumber 78 = .ok (.ifCond .ne 5, 3) := by decide +kernel
theorem dX8_takenNumber_81 : decode cX8_takenNumber 81 = .ok (.iconst (-1), 1) := by decide +kernel
theorem dX8_takenNumber_82 : decode cX8_takenNumber 82 = .ok (.ireturn, 1) := by decide +kernel
theorem dX8_takenNumber_83 : decode cX8_takenNumber 83 = .ok (.aload_n 0, 1) := by decide +kernel
theorem dX8_takenNumber_84 : decode cX8_takenNumber 84 = .ok (.dup, 1) := by decide +kernel
theorem dX8_takenNumber_85 : decode cX8_takenNumber 85 = .ok (.getfield 24, 3) := by decide +kernel
theorem dX8_takenNumber_88 : decode cX8_takenNumber 88 = .ok (.iload_n 3, 1) := by decide +kernel
theorem dX8_takenNumber_89 : decode cX8_takenNumber 89 = .ok (.iadd, 1) := by decide +kernel
theorem dX8_takenNumber_90 : decode cX8_takenNumber 90 = .ok (.putfield 24, 3) := by decide +kernel
theorem dX8_takenNumber_93 : decode cX8_takenNumber 93 = .ok (.iload 4, 2) := by decide +kernel
theorem dX8_takenNumber_95 : decode cX8_takenNumber 95 = .ok (.ireturn, 1) := by decide +kernel
set_option maxRecDepth 20000 in
theorem ggX9_init_X8_init : GoodIn wsX9_init wsX8_init := goodIn_r _ [35, 36, 2, 3, 22, 37, 69, 70, 71] (by decide +kernel) (by decide +kernel)
set_option maxRecDepth 20000 in
theorem gX9_init_X8_init_n9 : GoodIn wsX9_init (wsX8_init) := ggX9_init_X8_init
set_option maxRecDepth 20000 in
theorem ggX9_init_X4_init : GoodIn wsX9_init wsX4_init := goodIn_r _ [39, 40, 2, 3, 22, 41, 42, 43, 44, 45, 46, 88, 89, 90, 91, 92, 93, 94] (by decide +kernel) (by decide +kernel)
set_option maxRecDepth 20000 in
theorem gX9_init_X4_init_n18 : GoodIn wsX9_init (wsX4_init) := ggX9_init_X4_init
set_option maxRecDepth 20000 in
theorem ggX9_init_X7_init : GoodIn wsX9_init wsX7_init := goodIn_r _ [48, 49, 2, 3, 22, 50, 51, 52, 53, 54, 95, 96, 97, 98, 99, 100] (by decide +kernel) (by decide +kernel)
set_option maxRecDepth 20000 in
theorem gX9_init_X7_init_n60 : GoodIn wsX9_init (wsX7_init) := ggX9_init_X7_init
set_option maxRecDepth 20000 in
theorem ggX9_init_X1_init : GoodIn wsX9_init wsX1_init := goodIn_r _ [56, 57, 2, 3, 58, 59, 60, 61, 22, 62, 63, 101, 102, 103, 104, 105, 106] (by decide +kernel) (by decide +kernel)
set_option maxRecDepth 20000 in
theorem gX9_init_X1_init_n67 : GoodIn wsX9_init (wsX1_init) := ggX9_init_X1_init
set_option maxRecDepth 20000 in
theorem ggX9_init_X0_init : GoodIn wsX9_init wsX0_init := goodIn_r _ [65, 66, 2, 3, 22, 67, 68, 107, 108, 109, 110, 111, 112, 113, 114] (by decide +kernel) (by decide +kernel)
set_option maxRecDepth 20000 in
theorem gX9_init_X0_init_n72 : GoodIn wsX9_init (wsX0_init) := ggX9_init_X0_init
theorem dX9_init_0 : decode cX9_init 0 = .ok (.aload_n 0, 1) := by decide +kernel
theorem dX9_init_1 : decode cX9_init 1 = .ok (.invokespecial 1, 3) := by decide +kernel
theorem dX9_init_4 : decode cX9_init 4 = .ok (.aload_n 0, 1) := by decide +kernel
theorem dX9_init_5 : decode cX9_init 5 = .ok (.new 7, 3) := by decide +kernel
theorem dX9_init_8 : decode cX9_init 8 = .ok (.dup, 1) := by decide +kernel
theorem dX9_init_9 : decode cX9_init 9 = .ok (.invokespecial 9, 3) := by decide +kernel
theorem dX9_init_12 : decode cX9_init 12 = .ok (.putfield 10, 3) := by decide +kernel
theorem dX9_init_15 : decode cX9_init 15 = .ok (.aload_n 0, 1) := by decide +kernel
theorem dX9_init_16 : decode cX9_init 16 = .ok (.new 16, 3) := by decide +kernel
theorem dX9_init_19 : decode cX9_init 19 = .ok (.dup, 1) := by decide +kernel
theorem dX9_init_20 : decode cX9_init 20 = .ok (.invokespecial 18, 3) := by decide +kernel
theorem dX9_init_23 : decode cX9_init 23 = .ok (.putfield 19, 3) := by decide +kernel
theorem dX9_init_26 : decode cX9_init 26 = .ok (.aload_n 0, 1) := by decide +kernel
theorem dX9_init_27 : decode cX9_init 27 = .ok (.new 16, 3) := by decide +kernel
theorem dX9_init_30 : decode cX9_init 30 = .ok (.dup, 1) := by decide +kernel
theorem dX9_init_31 : decode cX9_init 31 = .ok (.invokespecial 18, 3) := by decide +kernel
theorem dX9_init_34 : decode cX9_init 34 = .ok (.putfield 23, 3) := by decide +kernel
theorem dX9_init_37 : decode cX9_init 37 = .ok (.aload_n 0, 1) := by decide +kernel
theorem dX9_init_38 : decode cX9_init 38 = .ok (.iconst (-1), 1) := by decide +kernel
theorem dX9_init_39 : decode cX9_init 39 = .ok (.putfield 26, 3) := by decide +kernel
theorem dX9_init_42 : decode cX9_init 42 = .ok (.aload_n 0, 1) := by decide +kernel
theorem dX9_init_43 : decode cX9_init 43 = .ok (.bipush 6, 2) := by decide +kernel
theorem dX9_init_45 : decode cX9_init 45 = .ok (.anewarray 30, 3) := by decide +kernel
theorem dX9_init_48 : decode cX9_init 48 = .ok (.putfield 32, 3) := by decide +kernel
theorem dX9_init_51 : decode cX9_init 51 = .ok (.aload_n 0, 1) := by decide +kernel
theorem dX9_init_52 : decode cX9_init 52 = .ok (.bipush 8, 2) := by decide +kernel
theorem dX9_init_54 : decode cX9_init 54 = .ok (.anewarray 36, 3) := by decide +kernel
theorem dX9_init_57 : decode cX9_init 57 = .ok (.putfield 38, 3) := by decide +kernel
theorem dX9_init_60 : decode cX9_init 60 = .ok (.aload_n 0, 1) := by decide +kernel
theorem dX9_init_61 : decode cX9_init 61 = .ok (.bipush 12, 2) := by decide +kernel
theorem dX9_init_63 : decode cX9_init 63 = .ok (.anewarray 42, 3) := by decide +kernel
theorem dX9_init_66 : decode cX9_init 66 = .ok (.putfield 44, 3) := by decide +kernel
theorem dX9_init_69 : decode cX9_init 69 = .ok (.aload_n 0, 1) := by decide +kernel
theorem dX9_init_70 : decode cX9_init 70 = .ok (.bipush 60, 2) := by decide +kernel
theorem dX9_init_72 : decode cX9_init 72 = .ok (.anewarray 48, 3) := by decide +kernel
theorem dX9_init_75 : decode cX9_init 75 = .ok (.putfield 50, 3) := by decide +kernel
theorem dX9_init_78 : decode cX9_init 78 = .ok (.aload_n 0, 1) := by decide +kernel
theorem dX9_init_79 : decode cX9_init 79 = .ok (.iconst 5, 1) := by decide +kernel
theorem dX9_init_80 : decode cX9_init 80 = .ok (.newarray .int, 2) := by decide +kernel
theorem dX9_init_82 : decode cX9_init 82 = .ok (.putfield 54, 3) := by decide +kernel
theorem dX9_init_85 : decode cX9_init 85 = .ok (.aload_n 0, 1) := by decide +kernel
theorem dX9_init_86 : decode cX9_init 86 = .ok (.new 58, 3) := by decide +kernel
theorem dX9_init_89 : decode cX9_init 89 = .ok (.dup, 1) := by decide +kernel
theorem dX9_init_90 : decode cX9_init 90 = .ok (.invokespecial 60, 3) := by decide +kernel
theorem dX9_init_93 : decode cX9_init 93 = .ok (.putfield 61, 3) := by decide +kernel
theorem dX9_init_96 : decode cX9_init 96 = .ok (.aload_n 0, 1) := by decide +kernel
theorem dX9_init_97 : decode cX9_init 97 = .ok (.new 65, 3) := by decide +kernel
theorem dX9_init_100 : decode cX9_init 100 = .ok (.dup, 1) := by decide +kernel
theorem dX9_init_101 : decode cX9_init 101 = .ok (.invokespecial 67, 3) := by decide +kernel
theorem dX9_init_104 : decode cX9_init 104 = .ok (.putfield 68, 3) := by decide +kernel
theorem dX9_init_107 : decode cX9_init 107 = .ok (.iconst 0, 1) := by decide +kernel
theorem dX9_init_108 : decode cX9_init 108 = .ok (.istore_n 1, 1) := by decide +kernel
theorem dX9_init_109 : decode cX9_init 109 = .ok (.iload_n 1, 1) := by decide +kernel
theorem dX9_init_110 : decode cX9_init 110 = .ok (.aload_n 0, 1) := by decide +kernel
theorem dX9_init_111 : decode cX9_init 111 = .ok (.getfield 38, 3) := by decide +kernel
theorem dX9_init_114 : decode cX9_init 114 = .ok (.arraylength, 1) := by decide +kernel
theorem dX9_init_115 : decode cX9_init 115 = .ok (.if_icmp .ge 22, 3) := by decide +kernel
theorem dX9_init_118 : decode cX9_init 118 = .ok (.aload_n 0, 1) := by decide +kernel
theorem dX9_init_119 : decode cX9_init 119 = .ok (.getfield 38, 3) := by decide +kernel
theorem dX9_init_122 : decode cX9_init 122 = .ok (.iload_n 1, 1) := by decide +kernel
theorem dX9_init_123 : decode cX9_init 123 = .ok (.new 36, 3) := by decide +kernel
theorem dX9_init_126 : decode cX9_init 126 = .ok (.dup, 1) := by decide +kernel
theorem dX9_init_127 : decode cX9_init 127 = .ok (.invokespecial 72, 3) := by decide +kernel
theorem dX9_init_130 : decode cX9_init 130 = .ok (.aastore, 1) := by decide +kernel
theorem dX9_init_131 : decode cX9_init 131 = .ok (.iinc 1 1, 3) := by decide +kernel
theorem dX9_init_134 : decode cX9_init 134 = .ok (.goto (-25), 3) := by decide +kernel
theorem dX9_init_137 : decode cX9_init 137 = .ok (.return_, 1) := by decide +kernel
set_option maxRecDepth 20000 in
theorem ggX9_feed_X8_putNumber : GoodIn wsX9_feed wsX8_putNumber := goodIn_r _ [6, 7, 8, 25, 26, 27] (by decide +kernel) (by decide +kernel)
set_option maxRecDepth 20000 in
theorem gX9_feed_X8_putNumber : GoodIn wsX9_feed (wsV RX9 76 RX8 yX8_putNumber wsX8_putNumber) := goodIn_app (goodIn_of _ (by decide +kernel)) ggX9_feed_X8_putNumber
theorem dX9_feed_0 : decode cX9_feed 0 = .ok (.aload_n 0, 1) := by decide +kernel
theorem dX9_feed_1 : decode cX9_feed 1 = .ok (.getfield 10, 3) := by decide +kernel
theorem dX9_feed_4 : decode cX9_feed 4 = .ok (.getfield 73, 3) := by decide +kernel
theorem dX9_feed_7 : decode cX9_feed 7 = .ok (.bipush 20, 2) := by decide +kernel
theorem dX9_feed_9 : decode cX9_feed 9 = .ok (.iadd, 1) := by decide +kernel
theorem dX9_feed_10 : decode cX9_feed 10 = .ok (.sipush 400, 3) := by decide +kernel
theorem dX9_feed_13 : decode cX9_feed 13 = .ok (.if_icmp .le 5, 3) := by decide +kernel
theorem dX9_feed_16 : decode cX9_feed 16 = .ok (.iconst (-1), 1) := by decide +kernel
theorem dX9_feed_17 : decode cX9_feed 17 = .ok (.ireturn, 1) := by decide +kernel
theorem dX9_feed_18 : decode cX9_feed 18 = .ok (.aload_n 0, 1) := by decide +kernel
theorem dX9_feed_19 : decode cX9_feed 19 = .ok (.getfield 10, 3) := by decide +kernel
theorem dX9_feed_22 : decode cX9_feed 22 = .ok (.iload_n 1, 1) := by decide +kernel
theorem dX9_feed_23 : decode cX9_feed 23 = .ok (.invokevirtual 76, 3) := by decide +kernel
theorem dX9_feed_26 : decode cX9_feed 26 = .ok (.aload_n 0, 1) := by decide +kernel
theorem dX9_feed_27 : decode cX9_feed 27 = .ok (.getfield 10, 3) := by decide +kernel
theorem dX9_feed_30 : decode cX9_feed 30 = .ok (.iload_n 2, 1) := by decide +kernel
theorem dX9_feed_31 : decode cX9_feed 31 = .ok (.invokevirtual 76, 3) := by decide +kernel
theorem dX9_feed_34 : decode cX9_feed 34 = .ok (.aload_n 0, 1) := by decide +kernel
theorem dX9_feed_35 : decode cX9_feed 35 = .ok (.getfield 10, 3) := by decide +kernel
theorem dX9_feed_38 : decode cX9_feed 38 = .ok (.iload_n 3, 1) := by decide +kernel
theorem dX9_feed_39 : decode cX9_feed 39 = .ok (.invokevirtual 76, 3) := by decide +kernel
theorem dX9_feed_42 : decode cX9_feed 42 = .ok (.aload_n 0, 1) := by decide +kernel
theorem dX9_feed_43 : decode cX9_feed 43 = .ok (.getfield 10, 3) := by decide +kernel
theorem dX9_feed_46 : decode cX9_feed 46 = .ok (.iload 4, 2) := by decide +kernel
theorem dX9_feed_48 : decode cX9_feed 48 = .ok (.invokevirtual 76, 3) := by decide +kernel
theorem dX9_feed_51 : decode cX9_feed 51 = .ok (.aload_n 0, 1) := by decide +kernel
theorem dX9_feed_52 : decode cX9_feed 52 = .ok (.getfield 10, 3) := by decide +kernel
theorem dX9_feed_55 : decode cX9_feed 55 = .ok (.iload 5, 2) := by decide +kernel
theorem dX9_feed_57 : decode cX9_feed 57 = .ok (.invokevirtual 76, 3) := by decide +kernel
theorem dX9_feed_60 : decode cX9_feed 60 = .ok (.aload_n 0, 1) := by decide +kernel
theorem dX9_feed_61 : decode cX9_feed 61 = .ok (.getfield 10, 3) := by decide +kernel
theorem dX9_feed_64 : decode cX9_feed 64 = .ok (.getfield 73, 3) := by decide +kernel
theorem dX9_feed_67 : decode cX9_feed 67 = .ok (.ireturn, 1) := by decide +kernel
theorem dX9_end_0 : decode cX9_end 0 = .ok (.iload_n 1, 1) := by decide +kernel
theorem dX9_end_1 : decode cX9_end 1 = .ok (.ifCond .lt 14, 3) := by decide +kernel
theorem dX9_end_4 : decode cX9_end 4 = .ok (.iload_n 1, 1) := by decide +kernel
theorem dX9_end_5 : decode cX9_end 5 = .ok (.aload_n 0, 1) := by decide +kernel
theorem dX9_end_6 : decode cX9_end 6 = .ok (.getfield 10, 3) := by decide +kernel
theorem dX9_end_9 : decode cX9_end 9 = .ok (.getfield 73, 3) := by decide +kernel
theorem dX9_end_12 : decode cX9_end 12 = .ok (.if_icmp .le 5, 3) := by decide +kernel
theorem dX9_end_15 : decode cX9_end 15 = .ok (.iconst 0, 1) := by decide +kernel
theorem dX9_end_16 : decode cX9_end 16 = .ok (.ireturn, 1) := by decide +kernel
theorem dX9_end_17 : decode cX9_end 17 = .ok (.aload_n 0, 1) := by decide +kernel
theorem dX9_end_18 : decode cX9_end 18 = .ok (.getfield 10, 3) := by decide +kernel
theorem dX9_end_21 : decode cX9_end 21 = .ok (.iload_n 1, 1) := by decide +kernel
theorem dX9_end_22 : decode cX9_end 22 = .ok (.putfield 73, 3) := by decide +kernel
theorem dX9_end_25 : decode cX9_end 25 = .ok (.iconst 1, 1) := by decide +kernel
theorem dX9_end_26 : decode cX9_end 26 = .ok (.ireturn, 1) := by decide +kernel
set_option maxRecDepth 20000 in
theorem ggX9_rights_X8_partsRead : GoodIn wsX9_rights wsX8_partsRead := goodIn_r _ [12, 13, 14, 15, 16, 17, 18, 19, 20, 21, 22, 23, 24, 11, 25, 26, 27, 28, 29, 30, 31, 32, 33, 34, 35, 36, 37, 38, 39, 40, 41, 42, 43, 44, 45, 46, 47, 48, 49, 50, 51, 52, 53, 54, 55, 56, 57, 58, 59, 60, 61, 62, 63, 64, 65, 66, 67, 68, 69, 70, 71, 72, 73, 74, 75, 76, 77, 78, 79, 80, 81, 82, 83, 84, 85, 86, 87, 88, 89, 90, 91, 92, 93, 94, 95, 96, 97, 98, 99, 100, 101, 102, 103, 104, 105, 106, 107, 108, 109, 110, 111, 128, 129, 130, 131, 132, 133, 134, 135, 136, 137] (by decide +kernel) (by decide +kernel)
set_option maxRecDepth 20000 in
theorem gX9_rights_X8_partsRead : GoodIn wsX9_rights (wsV RX9 83 RX8 yX8_partsRead wsX8_partsRead) := goodIn_app (goodIn_of _ (by decide +kernel)) ggX9_rights_X8_partsRead
theorem dX9_rights_0 : decode cX9_rights 0 = .ok (.aload_n 0, 1) := by decide +kernel
theorem dX9_rights_1 : decode cX9_rights 1 = .ok (.getfield 10, 3) := by decide +kernel
theorem dX9_rights_4 : decode cX9_rights 4 = .ok (.aload_n 0, 1) := by decide +kernel
theorem dX9_rights_5 : decode cX9_rights 5 = .ok (.getfield 23, 3) := by decide +kernel
theorem dX9_rights_8 : decode cX9_rights 8 = .ok (.aload_n 0, 1) := by decide +kernel
theorem dX9_rights_9 : decode cX9_rights 9 = .ok (.getfield 80, 3) := by decide +kernel
theorem dX9_rights_12 : decode cX9_rights 12 = .ok (.invokevirtual 83, 3) := by decide +kernel
theorem dX9_rights_15 : decode cX9_rights 15 = .ok (.istore_n 1, 1) := by decide +kernel
theorem dX9_rights_16 : decode cX9_rights 16 = .ok (.aload_n 0, 1) := by decide +kernel
theorem dX9_rights_17 : decode cX9_rights 17 = .ok (.getfield 10, 3) := by decide +kernel
theorem dX9_rights_20 : decode cX9_rights 20 = .ok (.iconst 0, 1) := by decide +kernel
theorem dX9_rights_21 : decode cX9_rights 21 = .ok (.putfield 73, 3) := by decide +kernel
theorem dX9_rights_24 : decode cX9_rights 24 = .ok (.aload_n 0, 1) := by decide +kernel
theorem dX9_rights_25 : decode cX9_rights 25 = .ok (.iload_n 1, 1) := by decide +kernel
theorem dX9_rights_26 : decode cX9_rights 26 = .ok (.iconst (-1), 1) := by decide +kernel
theorem dX9_rights_27 : decode cX9_rights 27 = .ok (.if_icmp .ne 13, 3) := by decide +kernel
theorem dX9_rights_30 : decode cX9_rights 30 = .ok (.aload_n 0, 1) := by decide +kernel
theorem dX9_rights_31 : decode cX9_rights 31 = .ok (.getfield 10, 3) := by decide +kernel
theorem dX9_rights_34 : decode cX9_rights 34 = .ok (.getfield 87, 3) := by decide +kernel
theorem dX9_rights_37 : decode cX9_rights 37 = .ok (.goto 4, 3) := by decide +kernel
theorem dX9_rights_40 : decode cX9_rights 40 = .ok (.iconst (-1), 1) := by decide +kernel
theorem dX9_rights_41 : decode cX9_rights 41 = .ok (.putfield 26, 3) := by decide +kernel
theorem dX9_rights_44 : decode cX9_rights 44 = .ok (.iload_n 1, 1) := by decide +kernel
theorem dX9_rights_45 : decode cX9_rights 45 = .ok (.iconst (-1), 1) := by decide +kernel
theorem dX9_rights_46 : decode cX9_rights 46 = .ok (.if_icmp .ne 13, 3) := by decide +kernel
theorem dX9_rights_49 : decode cX9_rights 49 = .ok (.new 90, 3) := by decide +kernel
theorem dX9_rights_52 : decode cX9_rights 52 = .ok (.dup, 1) := by decide +kernel
theorem dX9_rights_53 : decode cX9_rights 53 = .ok (.ldc 92, 2) := by decide +kernel
theorem dX9_rights_55 : decode cX9_rights 55 = .ok (.invokespecial 94, 3) := by decide +kernel
theorem dX9_rights_58 : decode cX9_rights 58 = .ok (.athrow, 1) := by decide +kernel
theorem dX9_rights_59 : decode cX9_rights 59 = .ok (.aload_n 0, 1) := by decide +kernel
theorem dX9_rights_60 : decode cX9_rights 60 = .ok (.getfield 23, 3) := by decide +kernel
theorem dX9_rights_63 : decode cX9_rights 63 = .ok (.astore_n 2, 1) := by decide +kernel
theorem dX9_rights_64 : decode cX9_rights 64 = .ok (.aload_n 0, 1) := by decide +kernel
theorem dX9_rights_65 : decode cX9_rights 65 = .ok (.aload_n 0, 1) := by decide +kernel
theorem dX9_rights_66 : decode cX9_rights 66 = .ok (.getfield 19, 3) := by decide +kernel
theorem dX9_rights_69 : decode cX9_rights 69 = .ok (.putfield 23, 3) := by decide +kernel
theorem dX9_rights_72 : decode cX9_rights 72 = .ok (.aload_n 0, 1) := by decide +kernel
theorem dX9_rights_73 : decode cX9_rights 73 = .ok (.aload_n 2, 1) := by decide +kernel
theorem dX9_rights_74 : decode cX9_rights 74 = .ok (.putfield 19, 3) := by decide +kernel
theorem dX9_rights_77 : decode cX9_rights 77 = .ok (.iload_n 1, 1) := by decide +kernel
theorem dX9_rights_78 : decode cX9_rights 78 = .ok (.ireturn, 1) := by decide +kernel
theorem dX9_fault_0 : decode cX9_fault 0 = .ok (.aload_n 0, 1) := by decide +kernel
theorem dX9_fault_1 : decode cX9_fault 1 = .ok (.getfield 26, 3) := by decide +kernel
theorem dX9_fault_4 : decode cX9_fault 4 = .ok (.ireturn, 1) := by decide +kernel
set_option maxRecDepth 20000 in
theorem ggX9_may_X9_needShore : GoodIn wsX9_may wsX9_needShore := goodIn_ca (goodIn_r _ [6, 7, 8, 9, 27, 28, 29, 30, 31, 32, 33, 34, 35, 36, 37, 38, 39, 40, 41, 42] (by decide +kernel) (by decide +kernel)) (goodIn_sub (fun _ h => List.mem_cons_of_mem _ (List.mem_append_right _ h)) (by decide +kernel))
set_option maxRecDepth 20000 in
theorem gX9_may_X9_needShore : GoodIn wsX9_may (wsV RX9 97 RX9 yX9_needShore wsX9_needShore) := goodIn_app (goodIn_of _ (by decide +kernel)) ggX9_may_X9_needShore
set_option maxRecDepth 20000 in
theorem ggX9_may_X9_needFamily : GoodIn wsX9_may wsX9_needFamily := goodIn_ca (goodIn_r _ [13, 7, 8, 14, 27, 28, 29, 30, 31, 32, 33, 34, 35, 36, 37, 38, 39, 40, 41, 42] (by decide +kernel) (by decide +kernel)) (goodIn_sub (fun _ h => List.mem_cons_of_mem _ (List.mem_append_right _ h)) (by decide +kernel))
set_option maxRecDepth 20000 in
theorem gX9_may_X9_needFamily : GoodIn wsX9_may (wsV RX9 101 RX9 yX9_needFamily wsX9_needFamily) := goodIn_app (goodIn_of _ (by decide +kernel)) ggX9_may_X9_needFamily
set_option maxRecDepth 20000 in
theorem ggX9_may_X4_firstPart : GoodIn wsX9_may wsX4_firstPart := goodIn_r _ [19, 20, 21, 22, 23, 24, 25, 5, 26, 43, 44, 45, 46, 47, 48, 49] (by decide +kernel) (by decide +kernel)
set_option maxRecDepth 20000 in
theorem gX9_may_X4_firstPart : GoodIn wsX9_may (wsV RX9 105 RX4 yX4_firstPart wsX4_firstPart) := goodIn_app (goodIn_of _ (by decide +kernel)) ggX9_may_X4_firstPart
theorem dX9_may_0 : decode cX9_may 0 = .ok (.aload_n 0, 1) := by decide +kernel
theorem dX9_may_1 : decode cX9_may 1 = .ok (.iload_n 1, 1) := by decide +kernel
theorem dX9_may_2 : decode cX9_may 2 = .ok (.invokevirtual 97, 3) := by decide +kernel
theorem dX9_may_5 : decode cX9_may 5 = .ok (.pop, 1) := by decide +kernel
theorem dX9_may_6 : decode cX9_may 6 = .ok (.aload_n 0, 1) := by decide +kernel
theorem dX9_may_7 : decode cX9_may 7 = .ok (.iload_n 2, 1) := by decide +kernel
theorem dX9_may_8 : decode cX9_may 8 = .ok (.invokevirtual 101, 3) := by decide +kernel
theorem dX9_may_11 : decode cX9_may 11 = .ok (.pop, 1) := by decide +kernel
theorem dX9_may_12 : decode cX9_may 12 = .ok (.aload_n 0, 1) := by decide +kernel
theorem dX9_may_13 : decode cX9_may 13 = .ok (.getfield 19, 3) := by decide +kernel
theorem dX9_may_16 : decode cX9_may 16 = .ok (.iload_n 1, 1) := by decide +kernel
theorem dX9_may_17 : decode cX9_may 17 = .ok (.iload_n 2, 1) := by decide +kernel
theorem dX9_may_18 : decode cX9_may 18 = .ok (.iload_n 3, 1) := by decide +kernel
theorem dX9_may_19 : decode cX9_may 19 = .ok (.invokevirtual 105, 3) := by decide +kernel
theorem dX9_may_22 : decode cX9_may 22 = .ok (.iconst (-1), 1) := by decide +kernel
theorem dX9_may_23 : decode cX9_may 23 = .ok (.if_icmp .eq 7, 3) := by decide +kernel
theorem dX9_may_26 : decode cX9_may 26 = .ok (.iconst 1, 1) := by decide +kernel
theorem dX9_may_27 : decode cX9_may 27 = .ok (.goto 4, 3) := by decide +kernel
theorem dX9_may_30 : decode cX9_may 30 = .ok (.iconst 0, 1) := by decide +kernel
theorem dX9_may_31 : decode cX9_may 31 = .ok (.ireturn, 1) := by decide +kernel
set_option maxRecDepth 20000 in
theorem ggX9_shore_X6_init : GoodIn wsX9_shore wsX6_init := goodIn_r _ [9, 10, 11, 12, 13, 14, 31, 32, 33] (by decide +kernel) (by decide +kernel)
set_option maxRecDepth 20000 in
theorem gX9_shore_X6_init_n114 : GoodIn wsX9_shore (wsX6_init) := ggX9_shore_X6_init
theorem dX9_shore_0 : decode cX9_shore 0 = .ok (.aload_n 0, 1) := by decide +kernel
theorem dX9_shore_1 : decode cX9_shore 1 = .ok (.getfield 80, 3) := by decide +kernel
theorem dX9_shore_4 : decode cX9_shore 4 = .ok (.aload_n 0, 1) := by decide +kernel
theorem dX9_shore_5 : decode cX9_shore 5 = .ok (.getfield 32, 3) := by decide +kernel
theorem dX9_shore_8 : decode cX9_shore 8 = .ok (.arraylength, 1) := by decide +kernel
theorem dX9_shore_9 : decode cX9_shore 9 = .ok (.if_icmp .lt 13, 3) := by decide +kernel
theorem dX9_shore_12 : decode cX9_shore 12 = .ok (.new 109, 3) := by decide +kernel
theorem dX9_shore_15 : decode cX9_shore 15 = .ok (.dup, 1) := by decide +kernel
theorem dX9_shore_16 : decode cX9_shore 16 = .ok (.ldc 111, 2) := by decide +kernel
theorem dX9_shore_18 : decode cX9_shore 18 = .ok (.invokespecial 113, 3) := by decide +kernel
theorem dX9_shore_21 : decode cX9_shore 21 = .ok (.athrow, 1) := by decide +kernel
theorem dX9_shore_22 : decode cX9_shore 22 = .ok (.aload_n 0, 1) := by decide +kernel
theorem dX9_shore_23 : decode cX9_shore 23 = .ok (.getfield 32, 3) := by decide +kernel
theorem dX9_shore_26 : decode cX9_shore 26 = .ok (.aload_n 0, 1) := by decide +kernel
theorem dX9_shore_27 : decode cX9_shore 27 = .ok (.getfield 80, 3) := by decide +kernel
theorem dX9_shore_30 : decode cX9_shore 30 = .ok (.new 30, 3) := by decide +kernel
theorem dX9_shore_33 : decode cX9_shore 33 = .ok (.dup, 1) := by decide +kernel
theorem dX9_shore_34 : decode cX9_shore 34 = .ok (.invokespecial 114, 3) := by decide +kernel
theorem dX9_shore_37 : decode cX9_shore 37 = .ok (.aastore, 1) := by decide +kernel
theorem dX9_shore_38 : decode cX9_shore 38 = .ok (.aload_n 0, 1) := by decide +kernel
theorem dX9_shore_39 : decode cX9_shore 39 = .ok (.dup, 1) := by decide +kernel
theorem dX9_shore_40 : decode cX9_shore 40 = .ok (.getfield 80, 3) := by decide +kernel
theorem dX9_shore_43 : decode cX9_shore 43 = .ok (.iconst 1, 1) := by decide +kernel
theorem dX9_shore_44 : decode cX9_shore 44 = .ok (.iadd, 1) := by decide +kernel
theorem dX9_shore_45 : decode cX9_shore 45 = .ok (.putfield 80, 3) := by decide +kernel
theorem dX9_shore_48 : decode cX9_shore 48 = .ok (.aload_n 0, 1) := by decide +kernel
theorem dX9_shore_49 : decode cX9_shore 49 = .ok (.getfield 80, 3) := by decide +kernel
theorem dX9_shore_52 : decode cX9_shore 52 = .ok (.iconst 1, 1) := by decide +kernel
theorem dX9_shore_53 : decode cX9_shore 53 = .ok (.isub, 1) := by decide +kernel
theorem dX9_shore_54 : decode cX9_shore 54 = .ok (.ireturn, 1) := by decide +kernel
set_option maxRecDepth 20000 in
theorem ggX9_rock_X9_needShore : GoodIn wsX9_rock wsX9_needShore := goodIn_ca (goodIn_r _ [12, 13, 14, 15, 51, 52, 53, 54, 55, 56, 57, 58, 59, 60, 61, 62, 63, 64, 65, 66] (by decide +kernel) (by decide +kernel)) (goodIn_sub (fun _ h => List.mem_cons_of_mem _ (List.mem_append_right _ h)) (by decide +kernel))
set_option maxRecDepth 20000 in
theorem gX9_rock_X9_needShore : GoodIn wsX9_rock (wsV RX9 97 RX9 yX9_needShore wsX9_needShore) := goodIn_app (goodIn_of _ (by decide +kernel)) ggX9_rock_X9_needShore
set_option maxRecDepth 20000 in
theorem ggX9_rock_X9_isWithin : GoodIn wsX9_rock wsX9_isWithin := goodIn_r _ [18] (by decide +kernel) (by decide +kernel)
set_option maxRecDepth 20000 in
theorem gX9_rock_X9_isWithin : GoodIn wsX9_rock (va_wsS RX9 115 yX9_isWithin wsX9_isWithin) := goodIn_app (goodIn_of _ (by decide +kernel)) ggX9_rock_X9_isWithin
set_option maxRecDepth 20000 in
theorem ggX9_rock_X5_init : GoodIn wsX9_rock wsX5_init := goodIn_r _ [21, 22, 23, 24, 25, 26, 27, 28, 29, 30, 31, 42, 43, 44, 45, 46, 47, 48, 49, 50] (by decide +kernel) (by decide +kernel)
set_option maxRecDepth 20000 in
theorem gX9_rock_X5_init : GoodIn wsX9_rock (wsX5_init) := ggX9_rock_X5_init
set_option maxRecDepth 20000 in
theorem ggX9_rock_X6_addRock : GoodIn wsX9_rock wsX6_addRock := goodIn_r _ [36, 37, 38, 39, 40, 41] (by decide +kernel) (by decide +kernel)
set_option maxRecDepth 20000 in
theorem gX9_rock_X6_addRock : GoodIn wsX9_rock (wsV RX9 135 RX6 yX6_addRock wsX6_addRock) := goodIn_app (goodIn_of _ (by decide +kernel)) ggX9_rock_X6_addRock
theorem dX9_rock_0 : decode cX9_rock 0 = .ok (.aload_n 0, 1) := by decide +kernel
theorem dX9_rock_1 : decode cX9_rock 1 = .ok (.iload_n 1, 1) := by decide +kernel
theorem dX9_rock_2 : decode cX9_rock 2 = .ok (.invokevirtual 97, 3) := by decide +kernel
theorem dX9_rock_5 : decode cX9_rock 5 = .ok (.astore 4, 2) := by decide +kernel
theorem dX9_rock_7 : decode cX9_rock 7 = .ok (.iload_n 2, 1) := by decide +kernel
theorem dX9_rock_8 : decode cX9_rock 8 = .ok (.iconst 0, 1) := by decide +kernel
theorem dX9_rock_9 : decode cX9_rock 9 = .ok (.bipush 9, 2) := by decide +kernel
theorem dX9_rock_11 : decode cX9_rock 11 = .ok (.invokestatic 115, 3) := by decide +kernel
theorem dX9_rock_14 : decode cX9_rock 14 = .ok (.ifCond .eq 14, 3) := by decide +kernel
theorem dX9_rock_17 : decode cX9_rock 17 = .ok (.iload_n 3, 1) := by decide +kernel
theorem dX9_rock_18 : decode cX9_rock 18 = .ok (.iconst 1, 1) := by decide +kernel
theorem dX9_rock_19 : decode cX9_rock 19 = .ok (.sipush 1000, 3) := by decide +kernel
theorem dX9_rock_22 : decode cX9_rock 22 = .ok (.invokestatic 115, 3) := by decide +kernel
theorem dX9_rock_25 : decode cX9_rock 25 = .ok (.ifCond .ne 13, 3) := by decide +kernel
theorem dX9_rock_28 : decode cX9_rock 28 = .ok (.new 90, 3) := by decide +kernel
theorem dX9_rock_31 : decode cX9_rock 31 = .ok (.dup, 1) := by decide +kernel
theorem dX9_rock_32 : decode cX9_rock 32 = .ok (.ldc 119, 2) := by decide +kernel
theorem dX9_rock_34 : decode cX9_rock 34 = .ok (.invokespecial 94, 3) := by decide +kernel
theorem dX9_rock_37 : decode cX9_rock 37 = .ok (.athrow, 1) := by decide +kernel
theorem dX9_rock_38 : decode cX9_rock 38 = .ok (.aload 4, 2) := by decide +kernel
theorem dX9_rock_40 : decode cX9_rock 40 = .ok (.getfield 121, 3) := by decide +kernel
theorem dX9_rock_43 : decode cX9_rock 43 = .ok (.aload 4, 2) := by decide +kernel
theorem dX9_rock_45 : decode cX9_rock 45 = .ok (.getfield 124, 3) := by decide +kernel
theorem dX9_rock_48 : decode cX9_rock 48 = .ok (.arraylength, 1) := by decide +kernel
theorem dX9_rock_49 : decode cX9_rock 49 = .ok (.if_icmp .lt 13, 3) := by decide +kernel
theorem dX9_rock_52 : decode cX9_rock 52 = .ok (.new 109, 3) := by decide +kernel
theorem dX9_rock_55 : decode cX9_rock 55 = .ok (.dup, 1) := by decide +kernel
theorem dX9_rock_56 : decode cX9_rock 56 = .ok (.ldc 128, 2) := by decide +kernel
theorem dX9_rock_58 : decode cX9_rock 58 = .ok (.invokespecial 113, 3) := by decide +kernel
theorem dX9_rock_61 : decode cX9_rock 61 = .ok (.athrow, 1) := by decide +kernel
theorem dX9_rock_62 : decode cX9_rock 62 = .ok (.aload 4, 2) := by decide +kernel
theorem dX9_rock_64 : decode cX9_rock 64 = .ok (.new 130, 3) := by decide +kernel
theorem dX9_rock_67 : decode cX9_rock 67 = .ok (.dup, 1) := by decide +kernel
theorem dX9_rock_68 : decode cX9_rock 68 = .ok (.iload_n 2, 1) := by decide +kernel
theorem dX9_rock_69 : decode cX9_rock 69 = .ok (.iload_n 3, 1) := by decide +kernel
theorem dX9_rock_70 : decode cX9_rock 70 = .ok (.invokespecial 132, 3) := by decide +kernel
theorem dX9_rock_73 : decode cX9_rock 73 = .ok (.invokevirtual 135, 3) := by decide +kernel
theorem dX9_rock_76 : decode cX9_rock 76 = .ok (.ireturn, 1) := by decide +kernel
set_option maxRecDepth 20000 in
theorem ggX9_hands_X9_needFamily : GoodIn wsX9_hands wsX9_needFamily := goodIn_ca (goodIn_r _ [7, 8, 9, 10, 22, 23, 24, 25, 26, 27, 28, 29, 30, 31, 32, 33, 34, 35, 36, 37] (by decide +kernel) (by decide +kernel)) (goodIn_sub (fun _ h => List.mem_cons_of_mem _ (List.mem_append_right _ h)) (by decide +kernel))
set_option maxRecDepth 20000 in
theorem gX9_hands_X9_needFamily : GoodIn wsX9_hands (wsV RX9 101 RX9 yX9_needFamily wsX9_needFamily) := goodIn_app (goodIn_of _ (by decide +kernel)) ggX9_hands_X9_needFamily
set_option maxRecDepth 20000 in
theorem ggX9_hands_X9_isWithin : GoodIn wsX9_hands wsX9_isWithin := goodIn_r _ [13] (by decide +kernel) (by decide +kernel)
set_option maxRecDepth 20000 in
theorem gX9_hands_X9_isWithin : GoodIn wsX9_hands (va_wsS RX9 115 yX9_isWithin wsX9_isWithin) := goodIn_app (goodIn_of _ (by decide +kernel)) ggX9_hands_X9_isWithin
theorem dX9_hands_0 : decode cX9_hands 0 = .ok (.aload_n 0, 1) := by decide +kernel
theorem dX9_hands_1 : decode cX9_hands 1 = .ok (.iload_n 1, 1) := by decide +kernel
theorem dX9_hands_2 : decode cX9_hands 2 = .ok (.invokevirtual 101, 3) := by decide +kernel
theorem dX9_hands_5 : decode cX9_hands 5 = .ok (.astore_n 3, 1) := by decide +kernel
theorem dX9_hands_6 : decode cX9_hands 6 = .ok (.iload_n 2, 1) := by decide +kernel
theorem dX9_hands_7 : decode cX9_hands 7 = .ok (.iconst 0, 1) := by decide +kernel
theorem dX9_hands_8 : decode cX9_hands 8 = .ok (.bipush 20, 2) := by decide +kernel
theorem dX9_hands_10 : decode cX9_hands 10 = .ok (.invokestatic 115, 3) := by decide +kernel
theorem dX9_hands_13 : decode cX9_hands 13 = .ok (.ifCond .ne 13, 3) := by decide +kernel
theorem dX9_hands_16 : decode cX9_hands 16 = .ok (.new 90, 3) := by decide +kernel
theorem dX9_hands_19 : decode cX9_hands 19 = .ok (.dup, 1) := by decide +kernel
theorem dX9_hands_20 : decode cX9_hands 20 = .ok (.ldc 139, 2) := by decide +kernel
theorem dX9_hands_22 : decode cX9_hands 22 = .ok (.invokespecial 94, 3) := by decide +kernel
theorem dX9_hands_25 : decode cX9_hands 25 = .ok (.athrow, 1) := by decide +kernel
theorem dX9_hands_26 : decode cX9_hands 26 = .ok (.aload_n 3, 1) := by decide +kernel
theorem dX9_hands_27 : decode cX9_hands 27 = .ok (.iload_n 2, 1) := by decide +kernel
theorem dX9_hands_28 : decode cX9_hands 28 = .ok (.putfield 141, 3) := by decide +kernel
theorem dX9_hands_31 : decode cX9_hands 31 = .ok (.return_, 1) := by decide +kernel
set_option maxRecDepth 20000 in
theorem ggX9_look_X9_needShore : GoodIn wsX9_look wsX9_needShore := goodIn_ca (goodIn_r _ [7, 8, 9, 10, 23, 24, 25, 26, 27, 28, 29, 30, 31, 32, 33, 34, 35, 36, 37, 38] (by decide +kernel) (by decide +kernel)) (goodIn_sub (fun _ h => List.mem_cons_of_mem _ (List.mem_append_right _ h)) (by decide +kernel))
set_option maxRecDepth 20000 in
theorem gX9_look_X9_needShore : GoodIn wsX9_look (wsV RX9 97 RX9 yX9_needShore wsX9_needShore) := goodIn_app (goodIn_of _ (by decide +kernel)) ggX9_look_X9_needShore
set_option maxRecDepth 20000 in
theorem ggX9_look_X9_needRock : GoodIn wsX9_look wsX9_needRock := goodIn_ca (goodIn_r _ [13, 8, 9, 39, 40, 41] (by decide +kernel) (by decide +kernel)) (goodIn_sub (fun _ h => List.mem_cons_of_mem _ (List.mem_append_right _ h)) (by decide +kernel))
set_option maxRecDepth 20000 in
theorem gX9_look_X9_needRock : GoodIn wsX9_look (va_wsS RX9 144 yX9_needRock wsX9_needRock) := goodIn_app (goodIn_of _ (by decide +kernel)) ggX9_look_X9_needRock
theorem dX9_look_0 : decode cX9_look 0 = .ok (.aload_n 0, 1) := by decide +kernel
theorem dX9_look_1 : decode cX9_look 1 = .ok (.iload_n 1, 1) := by decide +kernel
theorem dX9_look_2 : decode cX9_look 2 = .ok (.invokevirtual 97, 3) := by decide +kernel
theorem dX9_look_5 : decode cX9_look 5 = .ok (.iload_n 2, 1) := by decide +kernel
theorem dX9_look_6 : decode cX9_look 6 = .ok (.invokestatic 144, 3) := by decide +kernel
theorem dX9_look_9 : decode cX9_look 9 = .ok (.astore 4, 2) := by decide +kernel
theorem dX9_look_11 : decode cX9_look 11 = .ok (.iload_n 3, 1) := by decide +kernel
theorem dX9_look_12 : decode cX9_look 12 = .ok (.tableswitch 66 0 4 #[36, 42, 48, 54, 60], 36) := by decide +kernel
theorem dX9_look_48 : decode cX9_look 48 = .ok (.aload 4, 2) := by decide +kernel
theorem dX9_look_50 : decode cX9_look 50 = .ok (.getfield 148, 3) := by decide +kernel
theorem dX9_look_53 : decode cX9_look 53 = .ok (.ireturn, 1) := by decide +kernel
theorem dX9_look_54 : decode cX9_look 54 = .ok (.aload 4, 2) := by decide +kernel
theorem dX9_look_56 : decode cX9_look 56 = .ok (.getfield 151, 3) := by decide +kernel
theorem dX9_look_59 : decode cX9_look 59 = .ok (.ireturn, 1) := by decide +kernel
theorem dX9_look_60 : decode cX9_look 60 = .ok (.aload 4, 2) := by decide +kernel
theorem dX9_look_62 : decode cX9_look 62 = .ok (.getfield 154, 3) := by decide +kernel
theorem dX9_look_65 : decode cX9_look 65 = .ok (.ireturn, 1) := by decide +kernel
theorem dX9_look_66 : decode cX9_look 66 = .ok (.aload 4, 2) := by decide +kernel
theorem dX9_look_68 : decode cX9_look 68 = .ok (.getfield 157, 3) := by decide +kernel
theorem dX9_look_71 : decode cX9_look 71 = .ok (.ireturn, 1) := by decide +kernel
theorem dX9_look_72 : decode cX9_look 72 = .ok (.aload 4, 2) := by decide +kernel
theorem dX9_look_74 : decode cX9_look 74 = .ok (.getfield 160, 3) := by decide +kernel
theorem dX9_look_77 : decode cX9_look 77 = .ok (.ireturn, 1) := by decide +kernel
theorem dX9_look_78 : decode cX9_look 78 = .ok (.new 163, 3) := by decide +kernel
theorem dX9_look_81 : decode cX9_look 81 = .ok (.dup, 1) := by decide +kernel
theorem dX9_look_82 : decode cX9_look 82 = .ok (.ldc 165, 2) := by decide +kernel
theorem dX9_look_84 : decode cX9_look 84 = .ok (.invokespecial 167, 3) := by decide +kernel
theorem dX9_look_87 : decode cX9_look 87 = .ok (.athrow, 1) := by decide +kernel
set_option maxRecDepth 20000 in
theorem ggX9_cast_X9_needShore : GoodIn wsX9_cast wsX9_needShore := goodIn_ca (goodIn_r _ [5, 6, 7, 8, 12, 13, 14, 15, 16, 17, 18, 19, 20, 21, 22, 23, 24, 25, 26, 27] (by decide +kernel) (by decide +kernel)) (goodIn_sub (fun _ h => List.mem_cons_of_mem _ (List.mem_append_right _ h)) (by decide +kernel))
set_option maxRecDepth 20000 in
theorem gX9_cast_X9_needShore : GoodIn wsX9_cast (wsV RX9 97 RX9 yX9_needShore wsX9_needShore) := goodIn_app (goodIn_of _ (by decide +kernel)) ggX9_cast_X9_needShore
theorem dX9_cast_0 : decode cX9_cast 0 = .ok (.aload_n 0, 1) := by decide +kernel
theorem dX9_cast_1 : decode cX9_cast 1 = .ok (.iload_n 1, 1) := by decide +kernel
theorem dX9_cast_2 : decode cX9_cast 2 = .ok (.invokevirtual 97, 3) := by decide +kernel
theorem dX9_cast_5 : decode cX9_cast 5 = .ok (.getfield 168, 3) := by decide +kernel
theorem dX9_cast_8 : decode cX9_cast 8 = .ok (.ireturn, 1) := by decide +kernel
set_option maxRecDepth 20000 in
theorem ggX9_has_X9_needFamily : GoodIn wsX9_has wsX9_needFamily := goodIn_ca (goodIn_r _ [7, 8, 9, 10, 30, 31, 32, 33, 34, 35, 36, 37, 38, 39, 40, 41, 42, 43, 44, 45] (by decide +kernel) (by decide +kernel)) (goodIn_sub (fun _ h => List.mem_cons_of_mem _ (List.mem_append_right _ h)) (by decide +kernel))
set_option maxRecDepth 20000 in
theorem gX9_has_X9_needFamily : GoodIn wsX9_has (wsV RX9 101 RX9 yX9_needFamily wsX9_needFamily) := goodIn_app (goodIn_of _ (by decide +kernel)) ggX9_has_X9_needFamily
set_option maxRecDepth 20000 in
theorem ggX9_has_X0_workLeft : GoodIn wsX9_has wsX0_workLeft := goodIn_r _ [15, 16, 17, 18, 19, 20, 21, 22, 23, 24, 25, 26, 27, 28, 29] (by decide +kernel) (by decide +kernel)
set_option maxRecDepth 20000 in
theorem gX9_has_X0_workLeft : GoodIn wsX9_has (wsV RX9 180 RX0 yX0_workLeft wsX0_workLeft) := goodIn_app (goodIn_of _ (by decide +kernel)) ggX9_has_X0_workLeft
theorem dX9_has_0 : decode cX9_has 0 = .ok (.aload_n 0, 1) := by decide +kernel
theorem dX9_has_1 : decode cX9_has 1 = .ok (.iload_n 1, 1) := by decide +kernel
theorem dX9_has_2 : decode cX9_has 2 = .ok (.invokevirtual 101, 3) := by decide +kernel
theorem dX9_has_5 : decode cX9_has 5 = .ok (.astore_n 3, 1) := by decide +kernel
theorem dX9_has_6 : decode cX9_has 6 = .ok (.iload_n 2, 1) := by decide +kernel
theorem dX9_has_7 : decode cX9_has 7 = .ok (.tableswitch 76 0 6 #[41, 46, 51, 56, 61, 66, 71], 41) := by decide +kernel
theorem dX9_has_48 : decode cX9_has 48 = .ok (.aload_n 3, 1) := by decide +kernel
theorem dX9_has_49 : decode cX9_has 49 = .ok (.getfield 171, 3) := by decide +kernel
theorem dX9_has_52 : decode cX9_has 52 = .ok (.ireturn, 1) := by decide +kernel
theorem dX9_has_53 : decode cX9_has 53 = .ok (.aload_n 3, 1) := by decide +kernel
theorem dX9_has_54 : decode cX9_has 54 = .ok (.getfield 174, 3) := by decide +kernel
theorem dX9_has_57 : decode cX9_has 57 = .ok (.ireturn, 1) := by decide +kernel
theorem dX9_has_58 : decode cX9_has 58 = .ok (.aload_n 3, 1) := by decide +kernel
theorem dX9_has_59 : decode cX9_has 59 = .ok (.getfield 177, 3) := by decide +kernel
theorem dX9_has_62 : decode cX9_has 62 = .ok (.ireturn, 1) := by decide +kernel
theorem dX9_has_63 : decode cX9_has 63 = .ok (.aload_n 3, 1) := by decide +kernel
theorem dX9_has_64 : decode cX9_has 64 = .ok (.invokevirtual 180, 3) := by decide +kernel
theorem dX9_has_67 : decode cX9_has 67 = .ok (.ireturn, 1) := by decide +kernel
theorem dX9_has_68 : decode cX9_has 68 = .ok (.aload_n 3, 1) := by decide +kernel
theorem dX9_has_69 : decode cX9_has 69 = .ok (.getfield 184, 3) := by decide +kernel
theorem dX9_has_72 : decode cX9_has 72 = .ok (.ireturn, 1) := by decide +kernel
theorem dX9_has_73 : decode cX9_has 73 = .ok (.aload_n 3, 1) := by decide +kernel
theorem dX9_has_74 : decode cX9_has 74 = .ok (.getfield 187, 3) := by decide +kernel
theorem dX9_has_77 : decode cX9_has 77 = .ok (.ireturn, 1) := by decide +kernel
theorem dX9_has_78 : decode cX9_has 78 = .ok (.aload_n 3, 1) := by decide +kernel
theorem dX9_has_79 : decode cX9_has 79 = .ok (.getfield 141, 3) := by decide +kernel
theorem dX9_has_82 : decode cX9_has 82 = .ok (.ireturn, 1) := by decide +kernel
theorem dX9_has_83 : decode cX9_has 83 = .ok (.new 163, 3) := by decide +kernel
theorem dX9_has_86 : decode cX9_has 86 = .ok (.dup, 1) := by decide +kernel
theorem dX9_has_87 : decode cX9_has 87 = .ok (.ldc 190, 2) := by decide +kernel
theorem dX9_has_89 : decode cX9_has 89 = .ok (.invokespecial 167, 3) := by decide +kernel
theorem dX9_has_92 : decode cX9_has 92 = .ok (.athrow, 1) := by decide +kernel
set_option maxRecDepth 20000 in
theorem ggX9_owes_X9_needFamily : GoodIn wsX9_owes wsX9_needFamily := goodIn_ca (goodIn_r _ [5, 6, 7, 8, 25, 26, 27, 28, 29, 30, 31, 32, 33, 34, 35, 36, 37, 38, 39, 40] (by decide +kernel) (by decide +kernel)) (goodIn_sub (fun _ h => List.mem_cons_of_mem _ (List.mem_append_right _ h)) (by decide +kernel))
set_option maxRecDepth 20000 in
theorem gX9_owes_X9_needFamily : GoodIn wsX9_owes (wsV RX9 101 RX9 yX9_needFamily wsX9_needFamily) := goodIn_app (goodIn_of _ (by decide +kernel)) ggX9_owes_X9_needFamily
set_option maxRecDepth 20000 in
theorem ggX9_owes_X9_needShore : GoodIn wsX9_owes wsX9_needShore := goodIn_ca (goodIn_r _ [12, 6, 7, 13, 25, 26, 27, 28, 29, 30, 31, 32, 33, 34, 35, 36, 37, 38, 39, 40] (by decide +kernel) (by decide +kernel)) (goodIn_sub (fun _ h => List.mem_cons_of_mem _ (List.mem_append_right _ h)) (by decide +kernel))
set_option maxRecDepth 20000 in
theorem gX9_owes_X9_needShore : GoodIn wsX9_owes (wsV RX9 97 RX9 yX9_needShore wsX9_needShore) := goodIn_app (goodIn_of _ (by decide +kernel)) ggX9_owes_X9_needShore
set_option maxRecDepth 20000 in
theorem ggX9_owes_X0_owedFor : GoodIn wsX9_owes wsX0_owedFor := goodIn_r _ [18, 19, 20, 21, 17, 22, 23, 4, 24, 41, 42, 43, 44, 45, 46, 47, 48] (by decide +kernel) (by decide +kernel)
set_option maxRecDepth 20000 in
theorem gX9_owes_X0_owedFor : GoodIn wsX9_owes (wsV RX9 192 RX0 yX0_owedFor wsX0_owedFor) := goodIn_app (goodIn_of _ (by decide +kernel)) ggX9_owes_X0_owedFor
theorem dX9_owes_0 : decode cX9_owes 0 = .ok (.aload_n 0, 1) := by decide +kernel
theorem dX9_owes_1 : decode cX9_owes 1 = .ok (.iload_n 1, 1) := by decide +kernel
theorem dX9_owes_2 : decode cX9_owes 2 = .ok (.invokevirtual 101, 3) := by decide +kernel
theorem dX9_owes_5 : decode cX9_owes 5 = .ok (.astore 4, 2) := by decide +kernel
theorem dX9_owes_7 : decode cX9_owes 7 = .ok (.aload_n 0, 1) := by decide +kernel
theorem dX9_owes_8 : decode cX9_owes 8 = .ok (.iload_n 2, 1) := by decide +kernel
theorem dX9_owes_9 : decode cX9_owes 9 = .ok (.invokevirtual 97, 3) := by decide +kernel
theorem dX9_owes_12 : decode cX9_owes 12 = .ok (.pop, 1) := by decide +kernel
theorem dX9_owes_13 : decode cX9_owes 13 = .ok (.aload 4, 2) := by decide +kernel
theorem dX9_owes_15 : decode cX9_owes 15 = .ok (.iload_n 2, 1) := by decide +kernel
theorem dX9_owes_16 : decode cX9_owes 16 = .ok (.iload_n 3, 1) := by decide +kernel
theorem dX9_owes_17 : decode cX9_owes 17 = .ok (.invokevirtual 192, 3) := by decide +kernel
theorem dX9_owes_20 : decode cX9_owes 20 = .ok (.ireturn, 1) := by decide +kernel
set_option maxRecDepth 20000 in
theorem ggX9_day_X9_isWeather : GoodIn wsX9_day wsX9_isWeather := goodIn_r _ [11, 12, 13, 10, 14] (by decide +kernel) (by decide +kernel)
set_option maxRecDepth 20000 in
theorem gX9_day_X9_isWeather : GoodIn wsX9_day (va_wsS RX9 196 yX9_isWeather wsX9_isWeather) := goodIn_app (goodIn_of _ (by decide +kernel)) ggX9_day_X9_isWeather
set_option maxRecDepth 20000 in
theorem ggX9_day_X9_passOverShores : GoodIn wsX9_day wsX9_passOverShores := goodIn_r _ [18, 5, 19, 20, 21, 22, 23, 24, 25, 26, 27, 28, 29, 30, 31, 32, 33, 34, 35, 36, 37, 38, 39, 40, 70, 71, 72, 73, 74, 75, 76, 77, 78, 79, 80, 81, 82, 83, 84, 85, 94, 95, 96, 97, 98, 99, 100, 101, 102, 103, 104, 105] (by decide +kernel) (by decide +kernel)
set_option maxRecDepth 20000 in
theorem gX9_day_X9_passOverShores : GoodIn wsX9_day (wsV RX9 210 RX9 yX9_passOverShores wsX9_passOverShores) := goodIn_app (goodIn_of _ (by decide +kernel)) ggX9_day_X9_passOverShores
set_option maxRecDepth 20000 in
theorem ggX9_day_X9_passOverFamilies : GoodIn wsX9_day wsX9_passOverFamilies := goodIn_r _ [44, 7, 45, 46, 47, 48, 49, 50, 51, 52, 53, 54, 55, 56, 70, 71, 72, 73, 74, 75, 76, 77, 78, 79, 80, 81, 82, 83, 84, 85, 86, 87, 88, 89, 90, 91, 92, 93] (by decide +kernel) (by decide +kernel)
set_option maxRecDepth 20000 in
theorem gX9_day_X9_passOverFamilies : GoodIn wsX9_day (wsV RX9 213 RX9 yX9_passOverFamilies wsX9_passOverFamilies) := goodIn_app (goodIn_of _ (by decide +kernel)) ggX9_day_X9_passOverFamilies
set_option maxRecDepth 20000 in
theorem ggX9_day_X9_passOverPits : GoodIn wsX9_day wsX9_passOverPits := goodIn_r _ [60, 61, 62, 63, 64, 65, 66, 67, 68, 69, 70, 71, 72, 73, 74, 75, 76, 77, 78, 79, 80, 81, 82, 83, 84, 85, 106, 107, 108, 86, 87, 88, 89, 90, 91, 92, 93] (by decide +kernel) (by decide +kernel)
set_option maxRecDepth 20000 in
theorem gX9_day_X9_passOverPits : GoodIn wsX9_day (wsV RX9 216 RX9 yX9_passOverPits wsX9_passOverPits) := goodIn_app (goodIn_of _ (by decide +kernel)) ggX9_day_X9_passOverPits
theorem dX9_day_0 : decode cX9_day 0 = .ok (.iload_n 1, 1) := by decide +kernel
theorem dX9_day_1 : decode cX9_day 1 = .ok (.invokestatic 196, 3) := by decide +kernel
theorem dX9_day_4 : decode cX9_day 4 = .ok (.ifCond .eq 25, 3) := by decide +kernel
theorem dX9_day_7 : decode cX9_day 7 = .ok (.iload_n 2, 1) := by decide +kernel
theorem dX9_day_8 : decode cX9_day 8 = .ok (.invokestatic 196, 3) := by decide +kernel
theorem dX9_day_11 : decode cX9_day 11 = .ok (.ifCond .eq 18, 3) := by decide +kernel
theorem dX9_day_14 : decode cX9_day 14 = .ok (.iload_n 3, 1) := by decide +kernel
theorem dX9_day_15 : decode cX9_day 15 = .ok (.invokestatic 196, 3) := by decide +kernel
theorem dX9_day_18 : decode cX9_day 18 = .ok (.ifCond .eq 11, 3) := by decide +kernel
theorem dX9_day_21 : decode cX9_day 21 = .ok (.iload 4, 2) := by decide +kernel
theorem dX9_day_23 : decode cX9_day 23 = .ok (.invokestatic 196, 3) := by decide +kernel
theorem dX9_day_26 : decode cX9_day 26 = .ok (.ifCond .ne 13, 3) := by decide +kernel
theorem dX9_day_29 : decode cX9_day 29 = .ok (.new 90, 3) := by decide +kernel
theorem dX9_day_32 : decode cX9_day 32 = .ok (.dup, 1) := by decide +kernel
theorem dX9_day_33 : decode cX9_day 33 = .ok (.ldc 200, 2) := by decide +kernel
theorem dX9_day_35 : decode cX9_day 35 = .ok (.invokespecial 94, 3) := by decide +kernel
theorem dX9_day_38 : decode cX9_day 38 = .ok (.athrow, 1) := by decide +kernel
theorem dX9_day_39 : decode cX9_day 39 = .ok (.aload_n 0, 1) := by decide +kernel
theorem dX9_day_40 : decode cX9_day 40 = .ok (.getfield 202, 3) := by decide +kernel
theorem dX9_day_43 : decode cX9_day 43 = .ok (.sipush 9999, 3) := by decide +kernel
theorem dX9_day_46 : decode cX9_day 46 = .ok (.if_icmp .lt 13, 3) := by decide +kernel
theorem dX9_day_49 : decode cX9_day 49 = .ok (.new 109, 3) := by decide +kernel
theorem dX9_day_52 : decode cX9_day 52 = .ok (.dup, 1) := by decide +kernel
theorem dX9_day_53 : decode cX9_day 53 = .ok (.ldc 205, 2) := by decide +kernel
theorem dX9_day_55 : decode cX9_day 55 = .ok (.invokespecial 113, 3) := by decide +kernel
theorem dX9_day_58 : decode cX9_day 58 = .ok (.athrow, 1) := by decide +kernel
theorem dX9_day_59 : decode cX9_day 59 = .ok (.aload_n 0, 1) := by decide +kernel
theorem dX9_day_60 : decode cX9_day 60 = .ok (.dup, 1) := by decide +kernel
theorem dX9_day_61 : decode cX9_day 61 = .ok (.getfield 202, 3) := by decide +kernel
theorem dX9_day_64 : decode cX9_day 64 = .ok (.iconst 1, 1) := by decide +kernel
theorem dX9_day_65 : decode cX9_day 65 = .ok (.iadd, 1) := by decide +kernel
theorem dX9_day_66 : decode cX9_day 66 = .ok (.putfield 202, 3) := by decide +kernel
theorem dX9_day_69 : decode cX9_day 69 = .ok (.aload_n 0, 1) := by decide +kernel
theorem dX9_day_70 : decode cX9_day 70 = .ok (.iload_n 1, 1) := by decide +kernel
theorem dX9_day_71 : decode cX9_day 71 = .ok (.putfield 207, 3) := by decide +kernel
theorem dX9_day_74 : decode cX9_day 74 = .ok (.aload_n 0, 1) := by decide +kernel
theorem dX9_day_75 : decode cX9_day 75 = .ok (.iload 4, 2) := by decide +kernel
theorem dX9_day_77 : decode cX9_day 77 = .ok (.invokevirtual 210, 3) := by decide +kernel
theorem dX9_day_80 : decode cX9_day 80 = .ok (.aload_n 0, 1) := by decide +kernel
theorem dX9_day_81 : decode cX9_day 81 = .ok (.iload_n 2, 1) := by decide +kernel
theorem dX9_day_82 : decode cX9_day 82 = .ok (.iload_n 3, 1) := by decide +kernel
theorem dX9_day_83 : decode cX9_day 83 = .ok (.invokevirtual 213, 3) := by decide +kernel
theorem dX9_day_86 : decode cX9_day 86 = .ok (.aload_n 0, 1) := by decide +kernel
theorem dX9_day_87 : decode cX9_day 87 = .ok (.iload_n 3, 1) := by decide +kernel
theorem dX9_day_88 : decode cX9_day 88 = .ok (.invokevirtual 216, 3) := by decide +kernel
theorem dX9_day_91 : decode cX9_day 91 = .ok (.aload_n 0, 1) := by decide +kernel
theorem dX9_day_92 : decode cX9_day 92 = .ok (.getfield 38, 3) := by decide +kernel
theorem dX9_day_95 : decode cX9_day 95 = .ok (.astore 5, 2) := by decide +kernel
theorem dX9_day_97 : decode cX9_day 97 = .ok (.aload 5, 2) := by decide +kernel
theorem dX9_day_99 : decode cX9_day 99 = .ok (.arraylength, 1) := by decide +kernel
theorem dX9_day_100 : decode cX9_day 100 = .ok (.istore 6, 2) := by decide +kernel
theorem dX9_day_102 : decode cX9_day 102 = .ok (.iconst 0, 1) := by decide +kernel
theorem dX9_day_103 : decode cX9_day 103 = .ok (.istore 7, 2) := by decide +kernel
theorem dX9_day_105 : decode cX9_day 105 = .ok (.iload 7, 2) := by decide +kernel
theorem dX9_day_107 : decode cX9_day 107 = .ok (.iload 6, 2) := by decide +kernel
theorem dX9_day_109 : decode cX9_day 109 = .ok (.if_icmp .ge 22, 3) := by decide +kernel
theorem dX9_day_112 : decode cX9_day 112 = .ok (.aload 5, 2) := by decide +kernel
theorem dX9_day_114 : decode cX9_day 114 = .ok (.iload 7, 2) := by decide +kernel
theorem dX9_day_116 : decode cX9_day 116 = .ok (.aaload, 1) := by decide +kernel
theorem dX9_day_117 : decode cX9_day 117 = .ok (.astore 8, 2) := by decide +kernel
theorem dX9_day_119 : decode cX9_day 119 = .ok (.aload 8, 2) := by decide +kernel
theorem dX9_day_121 : decode cX9_day 121 = .ok (.iconst 0, 1) := by decide +kernel
theorem dX9_day_122 : decode cX9_day 122 = .ok (.putfield 219, 3) := by decide +kernel
theorem dX9_day_125 : decode cX9_day 125 = .ok (.iinc 7 1, 3) := by decide +kernel
theorem dX9_day_128 : decode cX9_day 128 = .ok (.goto (-23), 3) := by decide +kernel
theorem dX9_day_131 : decode cX9_day 131 = .ok (.aload_n 0, 1) := by decide +kernel
theorem dX9_day_132 : decode cX9_day 132 = .ok (.getfield 202, 3) := by decide +kernel
theorem dX9_day_135 : decode cX9_day 135 = .ok (.ireturn, 1) := by decide +kernel
set_option maxRecDepth 20000 in
theorem ggX9_cut_X9_needShore : GoodIn wsX9_cut wsX9_needShore := goodIn_ca (goodIn_r _ [8, 9, 10, 11, 83, 84, 85, 86, 87, 88, 89, 90, 91, 92, 93, 94, 95, 96, 97, 98] (by decide +kernel) (by decide +kernel)) (goodIn_sub (fun _ h => List.mem_cons_of_mem _ (List.mem_append_left _ (List.mem_append_right _ h))) (by decide +kernel))
set_option maxRecDepth 20000 in
theorem gX9_cut_X9_needShore : GoodIn wsX9_cut (wsV RX9 97 RX9 yX9_needShore wsX9_needShore) := goodIn_app (goodIn_of _ (by decide +kernel)) ggX9_cut_X9_needShore
set_option maxRecDepth 20000 in
theorem ggX9_cut_X9_needRock : GoodIn wsX9_cut wsX9_needRock := goodIn_ca (goodIn_r _ [14, 9, 10, 115, 116, 117] (by decide +kernel) (by decide +kernel)) (goodIn_sub (fun _ h => List.mem_cons_of_mem _ (List.mem_append_left _ (List.mem_append_right _ h))) (by decide +kernel))
set_option maxRecDepth 20000 in
theorem gX9_cut_X9_needRock : GoodIn wsX9_cut (va_wsS RX9 144 yX9_needRock wsX9_needRock) := goodIn_app (goodIn_of _ (by decide +kernel)) ggX9_cut_X9_needRock
set_option maxRecDepth 20000 in
theorem ggX9_cut_X9_needFamily : GoodIn wsX9_cut wsX9_needFamily := goodIn_ca (goodIn_r _ [18, 9, 10, 19, 83, 84, 85, 86, 87, 88, 89, 90, 91, 92, 93, 94, 95, 96, 97, 98] (by decide +kernel) (by decide +kernel)) (goodIn_sub (fun _ h => List.mem_cons_of_mem _ (List.mem_append_left _ (List.mem_append_right _ h))) (by decide +kernel))
set_option maxRecDepth 20000 in
theorem gX9_cut_X9_needFamily : GoodIn wsX9_cut (wsV RX9 101 RX9 yX9_needFamily wsX9_needFamily) := goodIn_app (goodIn_of _ (by decide +kernel)) ggX9_cut_X9_needFamily
set_option maxRecDepth 20000 in
theorem ggX9_cut_X9_needAmount : GoodIn wsX9_cut wsX9_needAmount := goodIn_ca (goodIn_r _ [22, 23, 24, 25, 26, 7, 27] (by decide +kernel) (by decide +kernel)) (goodIn_sub (fun _ h => List.mem_cons_of_mem _ (List.mem_append_right _ h)) (by decide +kernel))
set_option maxRecDepth 20000 in
theorem gX9_cut_X9_needAmount : GoodIn wsX9_cut (va_wsS RX9 222 yX9_needAmount wsX9_needAmount) := goodIn_app (goodIn_of _ (by decide +kernel)) ggX9_cut_X9_needAmount
set_option maxRecDepth 20000 in
theorem ggX9_cut_X4_firstPart : GoodIn wsX9_cut wsX4_firstPart := goodIn_r _ [32, 33, 34, 35, 36, 37, 26, 7, 27, 108, 109, 110, 111, 112, 113, 114] (by decide +kernel) (by decide +kernel)
set_option maxRecDepth 20000 in
theorem gX9_cut_X4_firstPart : GoodIn wsX9_cut (wsV RX9 105 RX4 yX4_firstPart wsX4_firstPart) := goodIn_app (goodIn_of _ (by decide +kernel)) ggX9_cut_X4_firstPart
set_option maxRecDepth 20000 in
theorem ggX9_cut_X5_mustRest : GoodIn wsX9_cut wsX5_mustRest := goodIn_r _ [42, 43, 44, 45, 99, 100, 101, 102, 103, 104, 105, 106, 107] (by decide +kernel) (by decide +kernel)
set_option maxRecDepth 20000 in
theorem gX9_cut_X5_mustRest : GoodIn wsX9_cut (wsV RX9 231 RX5 yX5_mustRest wsX5_mustRest) := goodIn_app (goodIn_of _ (by decide +kernel)) ggX9_cut_X5_mustRest
set_option maxRecDepth 20000 in
theorem ggX9_cut_X9_againstTaking : GoodIn wsX9_cut wsX9_againstTaking := goodIn_r _ [48, 49, 50, 51, 52, 53, 54, 55, 56, 57, 58, 59, 118, 119, 120, 121, 122, 123, 124, 125] (by decide +kernel) (by decide +kernel)
set_option maxRecDepth 20000 in
theorem gX9_cut_X9_againstTaking : GoodIn wsX9_cut (va_wsS RX9 234 yX9_againstTaking wsX9_againstTaking) := goodIn_app (goodIn_of _ (by decide +kernel)) ggX9_cut_X9_againstTaking
set_option maxRecDepth 20000 in
theorem ggX9_cut_X5_loseToCutting : GoodIn wsX9_cut wsX5_loseToCutting := goodIn_r _ [63, 64, 65, 45, 43, 44, 99, 100, 101, 102, 103, 104, 105, 106, 107] (by decide +kernel) (by decide +kernel)
set_option maxRecDepth 20000 in
theorem gX9_cut_X5_loseToCutting : GoodIn wsX9_cut (wsV RX9 238 RX5 yX5_loseToCutting wsX5_loseToCutting) := goodIn_app (goodIn_of _ (by decide +kernel)) ggX9_cut_X5_loseToCutting
set_option maxRecDepth 20000 in
theorem ggX9_cut_X9_takeHome : GoodIn wsX9_cut wsX9_takeHome := goodIn_r _ [69, 2, 1, 70, 71, 72, 31, 73, 74, 75, 76, 77, 52, 78, 79, 80, 81, 82, 26, 7, 27, 118, 119, 120, 121, 122, 123, 124, 125, 83, 84, 85, 86, 87, 88, 89, 90, 91, 92, 93, 94, 95, 96, 97, 98, 108, 109, 110, 111, 112, 113, 114] (by decide +kernel) (by decide +kernel)
set_option maxRecDepth 20000 in
theorem gX9_cut_X9_takeHome : GoodIn wsX9_cut (wsV RX9 242 RX9 yX9_takeHome wsX9_takeHome) := goodIn_app (goodIn_of _ (by decide +kernel)) ggX9_cut_X9_takeHome
theorem dX9_cut_0 : decode cX9_cut 0 = .ok (.aload_n 0, 1) := by decide +kernel
theorem dX9_cut_1 : decode cX9_cut 1 = .ok (.iload_n 1, 1) := by decide +kernel
theorem dX9_cut_2 : decode cX9_cut 2 = .ok (.invokevirtual 97, 3) := by decide +kernel
theorem dX9_cut_5 : decode cX9_cut 5 = .ok (.iload_n 2, 1) := by decide +kernel
theorem dX9_cut_6 : decode cX9_cut 6 = .ok (.invokestatic 144, 3) := by decide +kernel
theorem dX9_cut_9 : decode cX9_cut 9 = .ok (.astore 5, 2) := by decide +kernel
theorem dX9_cut_11 : decode cX9_cut 11 = .ok (.aload_n 0, 1) := by decide +kernel
theorem dX9_cut_12 : decode cX9_cut 12 = .ok (.iload_n 3, 1) := by decide +kernel
theorem dX9_cut_13 : decode cX9_cut 13 = .ok (.invokevirtual 101, 3) := by decide +kernel
theorem dX9_cut_16 : decode cX9_cut 16 = .ok (.astore 6, 2) := by decide +kernel
theorem dX9_cut_18 : decode cX9_cut 18 = .ok (.iload 4, 2) := by decide +kernel
theorem dX9_cut_20 : decode cX9_cut 20 = .ok (.invokestatic 222, 3) := by decide +kernel
theorem dX9_cut_23 : decode cX9_cut 23 = .ok (.aload_n 0, 1) := by decide +kernel
theorem dX9_cut_24 : decode cX9_cut 24 = .ok (.getfield 19, 3) := by decide +kernel
theorem dX9_cut_27 : decode cX9_cut 27 = .ok (.iload_n 1, 1) := by decide +kernel
theorem dX9_cut_28 : decode cX9_cut 28 = .ok (.iload_n 3, 1) := by decide +kernel
theorem dX9_cut_29 : decode cX9_cut 29 = .ok (.aload_n 0, 1) := by decide +kernel
theorem dX9_cut_30 : decode cX9_cut 30 = .ok (.getfield 202, 3) := by decide +kernel
theorem dX9_cut_33 : decode cX9_cut 33 = .ok (.bipush 100, 2) := by decide +kernel
theorem dX9_cut_35 : decode cX9_cut 35 = .ok (.irem, 1) := by decide +kernel
theorem dX9_cut_36 : decode cX9_cut 36 = .ok (.invokevirtual 105, 3) := by decide +kernel
theorem dX9_cut_39 : decode cX9_cut 39 = .ok (.istore 7, 2) := by decide +kernel
theorem dX9_cut_41 : decode cX9_cut 41 = .ok (.iload 7, 2) := by decide +kernel
theorem dX9_cut_43 : decode cX9_cut 43 = .ok (.iconst (-1), 1) := by decide +kernel
theorem dX9_cut_44 : decode cX9_cut 44 = .ok (.if_icmp .ne 5, 3) := by decide +kernel
theorem dX9_cut_47 : decode cX9_cut 47 = .ok (.iconst 1, 1) := by decide +kernel
theorem dX9_cut_48 : decode cX9_cut 48 = .ok (.ireturn, 1) := by decide +kernel
theorem dX9_cut_49 : decode cX9_cut 49 = .ok (.aload_n 0, 1) := by decide +kernel
theorem dX9_cut_50 : decode cX9_cut 50 = .ok (.getfield 207, 3) := by decide +kernel
theorem dX9_cut_53 : decode cX9_cut 53 = .ok (.aload 5, 2) := by decide +kernel
theorem dX9_cut_55 : decode cX9_cut 55 = .ok (.getfield 225, 3) := by decide +kernel
theorem dX9_cut_58 : decode cX9_cut 58 = .ok (.if_icmp .le 5, 3) := by decide +kernel
theorem dX9_cut_61 : decode cX9_cut 61 = .ok (.iconst 2, 1) := by decide +kernel
theorem dX9_cut_62 : decode cX9_cut 62 = .ok (.ireturn, 1) := by decide +kernel
theorem dX9_cut_63 : decode cX9_cut 63 = .ok (.aload 5, 2) := by decide +kernel
theorem dX9_cut_65 : decode cX9_cut 65 = .ok (.iload_n 3, 1) := by decide +kernel
theorem dX9_cut_66 : decode cX9_cut 66 = .ok (.aload_n 0, 1) := by decide +kernel
theorem dX9_cut_67 : decode cX9_cut 67 = .ok (.getfield 202, 3) := by decide +kernel
theorem dX9_cut_70 : decode cX9_cut 70 = .ok (.aload_n 0, 1) := by decide +kernel
theorem dX9_cut_71 : decode cX9_cut 71 = .ok (.getfield 19, 3) := by decide +kernel
theorem dX9_cut_74 : decode cX9_cut 74 = .ok (.getfield 228, 3) := by decide +kernel
theorem dX9_cut_77 : decode cX9_cut 77 = .ok (.invokevirtual 231, 3) := by decide +kernel
theorem dX9_cut_80 : decode cX9_cut 80 = .ok (.ifCond .eq 5, 3) := by decide +kernel
theorem dX9_cut_83 : decode cX9_cut 83 = .ok (.iconst 3, 1) := by decide +kernel
theorem dX9_cut_84 : decode cX9_cut 84 = .ok (.ireturn, 1) := by decide +kernel
theorem dX9_cut_85 : decode cX9_cut 85 = .ok (.iload 4, 2) := by decide +kernel
theorem dX9_cut_87 : decode cX9_cut 87 = .ok (.aload 5, 2) := by decide +kernel
theorem dX9_cut_89 : decode cX9_cut 89 = .ok (.getfield 148, 3) := by decide +kernel
theorem dX9_cut_92 : decode cX9_cut 92 = .ok (.aload 6, 2) := by decide +kernel
theorem dX9_cut_94 : decode cX9_cut 94 = .ok (.invokestatic 234, 3) := by decide +kernel
theorem dX9_cut_97 : decode cX9_cut 97 = .ok (.istore 8, 2) := by decide +kernel
theorem dX9_cut_99 : decode cX9_cut 99 = .ok (.iload 8, 2) := by decide +kernel
theorem dX9_cut_101 : decode cX9_cut 101 = .ok (.ifCond .ne 26, 3) := by decide +kernel
theorem dX9_cut_104 : decode cX9_cut 104 = .ok (.aload 5, 2) := by decide +kernel
theorem dX9_cut_106 : decode cX9_cut 106 = .ok (.iload 4, 2) := by decide +kernel
theorem dX9_cut_108 : decode cX9_cut 108 = .ok (.iload_n 3, 1) := by decide +kernel
theorem dX9_cut_109 : decode cX9_cut 109 = .ok (.aload_n 0, 1) := by decide +kernel
theorem dX9_cut_110 : decode cX9_cut 110 = .ok (.getfield 202, 3) := by decide +kernel
theorem dX9_cut_113 : decode cX9_cut 113 = .ok (.invokevirtual 238, 3) := by decide +kernel
theorem dX9_cut_116 : decode cX9_cut 116 = .ok (.aload_n 0, 1) := by decide +kernel
theorem dX9_cut_117 : decode cX9_cut 117 = .ok (.aload 6, 2) := by decide +kernel
theorem dX9_cut_119 : decode cX9_cut 119 = .ok (.iload_n 1, 1) := by decide +kernel
theorem dX9_cut_120 : decode cX9_cut 120 = .ok (.iload 7, 2) := by decide +kernel
theorem dX9_cut_122 : decode cX9_cut 122 = .ok (.iload 4, 2) := by decide +kernel
theorem dX9_cut_124 : decode cX9_cut 124 = .ok (.invokevirtual 242, 3) := by decide +kernel
theorem dX9_cut_127 : decode cX9_cut 127 = .ok (.iload 8, 2) := by decide +kernel
theorem dX9_cut_129 : decode cX9_cut 129 = .ok (.ireturn, 1) := by decide +kernel
set_option maxRecDepth 20000 in
theorem ggX9_gather_X9_needShore : GoodIn wsX9_gather wsX9_needShore := goodIn_ca (goodIn_r _ [7, 8, 9, 10, 65, 66, 67, 68, 69, 70, 71, 72, 73, 74, 75, 76, 77, 78, 79, 80] (by decide +kernel) (by decide +kernel)) (goodIn_sub (fun _ h => List.mem_cons_of_mem _ (List.mem_append_left _ (List.mem_append_right _ h))) (by decide +kernel))
set_option maxRecDepth 20000 in
theorem gX9_gather_X9_needShore : GoodIn wsX9_gather (wsV RX9 97 RX9 yX9_needShore wsX9_needShore) := goodIn_app (goodIn_of _ (by decide +kernel)) ggX9_gather_X9_needShore
set_option maxRecDepth 20000 in
theorem ggX9_gather_X9_needFamily : GoodIn wsX9_gather wsX9_needFamily := goodIn_ca (goodIn_r _ [14, 8, 9, 15, 65, 66, 67, 68, 69, 70, 71, 72, 73, 74, 75, 76, 77, 78, 79, 80] (by decide +kernel) (by decide +kernel)) (goodIn_sub (fun _ h => List.mem_cons_of_mem _ (List.mem_append_left _ (List.mem_append_right _ h))) (by decide +kernel))
set_option maxRecDepth 20000 in
theorem gX9_gather_X9_needFamily : GoodIn wsX9_gather (wsV RX9 101 RX9 yX9_needFamily wsX9_needFamily) := goodIn_app (goodIn_of _ (by decide +kernel)) ggX9_gather_X9_needFamily
set_option maxRecDepth 20000 in
theorem ggX9_gather_X9_needAmount : GoodIn wsX9_gather wsX9_needAmount := goodIn_ca (goodIn_r _ [18, 19, 20, 21, 22, 6, 23] (by decide +kernel) (by decide +kernel)) (goodIn_sub (fun _ h => List.mem_cons_of_mem _ (List.mem_append_right _ h)) (by decide +kernel))
set_option maxRecDepth 20000 in
theorem gX9_gather_X9_needAmount : GoodIn wsX9_gather (va_wsS RX9 222 yX9_needAmount wsX9_needAmount) := goodIn_app (goodIn_of _ (by decide +kernel)) ggX9_gather_X9_needAmount
set_option maxRecDepth 20000 in
theorem ggX9_gather_X4_firstPart : GoodIn wsX9_gather wsX4_firstPart := goodIn_r _ [28, 29, 30, 31, 32, 33, 22, 6, 23, 84, 85, 86, 87, 88, 89, 90] (by decide +kernel) (by decide +kernel)
set_option maxRecDepth 20000 in
theorem gX9_gather_X4_firstPart : GoodIn wsX9_gather (wsV RX9 105 RX4 yX4_firstPart wsX4_firstPart) := goodIn_app (goodIn_of _ (by decide +kernel)) ggX9_gather_X4_firstPart
set_option maxRecDepth 20000 in
theorem ggX9_gather_X9_againstTaking : GoodIn wsX9_gather wsX9_againstTaking := goodIn_r _ [36, 37, 38, 39, 40, 41, 42, 43, 44, 45, 46, 47, 91, 92, 93, 94, 95, 96, 97, 98] (by decide +kernel) (by decide +kernel)
set_option maxRecDepth 20000 in
theorem gX9_gather_X9_againstTaking : GoodIn wsX9_gather (va_wsS RX9 234 yX9_againstTaking wsX9_againstTaking) := goodIn_app (goodIn_of _ (by decide +kernel)) ggX9_gather_X9_againstTaking
set_option maxRecDepth 20000 in
theorem ggX9_gather_X9_takeHome : GoodIn wsX9_gather wsX9_takeHome := goodIn_r _ [51, 2, 1, 52, 53, 54, 27, 55, 56, 57, 58, 59, 40, 60, 61, 62, 63, 64, 22, 6, 23, 91, 92, 93, 94, 95, 96, 97, 98, 65, 66, 67, 68, 69, 70, 71, 72, 73, 74, 75, 76, 77, 78, 79, 80, 84, 85, 86, 87, 88, 89, 90] (by decide +kernel) (by decide +kernel)
set_option maxRecDepth 20000 in
theorem gX9_gather_X9_takeHome : GoodIn wsX9_gather (wsV RX9 242 RX9 yX9_takeHome wsX9_takeHome) := goodIn_app (goodIn_of _ (by decide +kernel)) ggX9_gather_X9_takeHome
theorem dX9_gather_0 : decode cX9_gather 0 = .ok (.aload_n 0, 1) := by decide +kernel
theorem dX9_gather_1 : decode cX9_gather 1 = .ok (.iload_n 1, 1) := by decide +kernel
theorem dX9_gather_2 : decode cX9_gather 2 = .ok (.invokevirtual 97, 3) := by decide +kernel
theorem dX9_gather_5 : decode cX9_gather 5 = .ok (.astore 4, 2) := by decide +kernel
theorem dX9_gather_7 : decode cX9_gather 7 = .ok (.aload_n 0, 1) := by decide +kernel
theorem dX9_gather_8 : decode cX9_gather 8 = .ok (.iload_n 2, 1) := by decide +kernel
theorem dX9_gather_9 : decode cX9_gather 9 = .ok (.invokevirtual 101, 3) := by decide +kernel
theorem dX9_gather_12 : decode cX9_gather 12 = .ok (.astore 5, 2) := by decide +kernel
theorem dX9_gather_14 : decode cX9_gather 14 = .ok (.iload_n 3, 1) := by decide +kernel
theorem dX9_gather_15 : decode cX9_gather 15 = .ok (.invokestatic 222, 3) := by decide +kernel
theorem dX9_gather_18 : decode cX9_gather 18 = .ok (.aload_n 0, 1) := by decide +kernel
theorem dX9_gather_19 : decode cX9_gather 19 = .ok (.getfield 19, 3) := by decide +kernel
theorem dX9_gather_22 : decode cX9_gather 22 = .ok (.iload_n 1, 1) := by decide +kernel
theorem dX9_gather_23 : decode cX9_gather 23 = .ok (.iload_n 2, 1) := by decide +kernel
theorem dX9_gather_24 : decode cX9_gather 24 = .ok (.aload_n 0, 1) := by decide +kernel
theorem dX9_gather_25 : decode cX9_gather 25 = .ok (.getfield 202, 3) := by decide +kernel
theorem dX9_gather_28 : decode cX9_gather 28 = .ok (.bipush 100, 2) := by decide +kernel
theorem dX9_gather_30 : decode cX9_gather 30 = .ok (.irem, 1) := by decide +kernel
theorem dX9_gather_31 : decode cX9_gather 31 = .ok (.invokevirtual 105, 3) := by decide +kernel
theorem dX9_gather_34 : decode cX9_gather 34 = .ok (.istore 6, 2) := by decide +kernel
theorem dX9_gather_36 : decode cX9_gather 36 = .ok (.iload 6, 2) := by decide +kernel
theorem dX9_gather_38 : decode cX9_gather 38 = .ok (.iconst (-1), 1) := by decide +kernel
theorem dX9_gather_39 : decode cX9_gather 39 = .ok (.if_icmp .ne 5, 3) := by decide +kernel
theorem dX9_gather_42 : decode cX9_gather 42 = .ok (.iconst 1, 1) := by decide +kernel
theorem dX9_gather_43 : decode cX9_gather 43 = .ok (.ireturn, 1) := by decide +kernel
theorem dX9_gather_44 : decode cX9_gather 44 = .ok (.iload_n 3, 1) := by decide +kernel
theorem dX9_gather_45 : decode cX9_gather 45 = .ok (.aload 4, 2) := by decide +kernel
theorem dX9_gather_47 : decode cX9_gather 47 = .ok (.getfield 168, 3) := by decide +kernel
theorem dX9_gather_50 : decode cX9_gather 50 = .ok (.aload 5, 2) := by decide +kernel
theorem dX9_gather_52 : decode cX9_gather 52 = .ok (.invokestatic 234, 3) := by decide +kernel
theorem dX9_gather_55 : decode cX9_gather 55 = .ok (.istore 7, 2) := by decide +kernel
theorem dX9_gather_57 : decode cX9_gather 57 = .ok (.iload 7, 2) := by decide +kernel
theorem dX9_gather_59 : decode cX9_gather 59 = .ok (.ifCond .ne 24, 3) := by decide +kernel
theorem dX9_gather_62 : decode cX9_gather 62 = .ok (.aload 4, 2) := by decide +kernel
theorem dX9_gather_64 : decode cX9_gather 64 = .ok (.dup, 1) := by decide +kernel
theorem dX9_gather_65 : decode cX9_gather 65 = .ok (.getfield 168, 3) := by decide +kernel
theorem dX9_gather_68 : decode cX9_gather 68 = .ok (.iload_n 3, 1) := by decide +kernel
theorem dX9_gather_69 : decode cX9_gather 69 = .ok (.isub, 1) := by decide +kernel
theorem dX9_gather_70 : decode cX9_gather 70 = .ok (.putfield 168, 3) := by decide +kernel
theorem dX9_gather_73 : decode cX9_gather 73 = .ok (.aload_n 0, 1) := by decide +kernel
theorem dX9_gather_74 : decode cX9_gather 74 = .ok (.aload 5, 2) := by decide +kernel
theorem dX9_gather_76 : decode cX9_gather 76 = .ok (.iload_n 1, 1) := by decide +kernel
theorem dX9_gather_77 : decode cX9_gather 77 = .ok (.iload 6, 2) := by decide +kernel
theorem dX9_gather_79 : decode cX9_gather 79 = .ok (.iload_n 3, 1) := by decide +kernel
theorem dX9_gather_80 : decode cX9_gather 80 = .ok (.invokevirtual 242, 3) := by decide +kernel
theorem dX9_gather_83 : decode cX9_gather 83 = .ok (.iload 7, 2) := by decide +kernel
theorem dX9_gather_85 : decode cX9_gather 85 = .ok (.ireturn, 1) := by decide +kernel
set_option maxRecDepth 20000 in
theorem ggX9_pit_X9_needFamily : GoodIn wsX9_pit wsX9_needFamily := goodIn_ca (goodIn_r _ [12, 13, 14, 15, 23, 24, 25, 26, 27, 28, 29, 30, 31, 32, 33, 34, 35, 36, 37, 38] (by decide +kernel) (by decide +kernel)) (goodIn_sub (fun _ h => List.mem_cons_of_mem _ (List.mem_append_right _ h)) (by decide +kernel))
set_option maxRecDepth 20000 in
theorem gX9_pit_X9_needFamily : GoodIn wsX9_pit (wsV RX9 101 RX9 yX9_needFamily wsX9_needFamily) := goodIn_app (goodIn_of _ (by decide +kernel)) ggX9_pit_X9_needFamily
set_option maxRecDepth 20000 in
theorem ggX9_pit_X3_init : GoodIn wsX9_pit wsX3_init := goodIn_r _ [18, 19, 20, 21, 22, 39, 40, 41] (by decide +kernel) (by decide +kernel)
set_option maxRecDepth 20000 in
theorem gX9_pit_X3_init : GoodIn wsX9_pit (wsX3_init) := ggX9_pit_X3_init
theorem dX9_pit_0 : decode cX9_pit 0 = .ok (.aload_n 0, 1) := by decide +kernel
theorem dX9_pit_1 : decode cX9_pit 1 = .ok (.iload_n 1, 1) := by decide +kernel
theorem dX9_pit_2 : decode cX9_pit 2 = .ok (.invokevirtual 101, 3) := by decide +kernel
theorem dX9_pit_5 : decode cX9_pit 5 = .ok (.astore_n 2, 1) := by decide +kernel
theorem dX9_pit_6 : decode cX9_pit 6 = .ok (.aload_n 0, 1) := by decide +kernel
theorem dX9_pit_7 : decode cX9_pit 7 = .ok (.getfield 246, 3) := by decide +kernel
theorem dX9_pit_10 : decode cX9_pit 10 = .ok (.aload_n 0, 1) := by decide +kernel
theorem dX9_pit_11 : decode cX9_pit 11 = .ok (.getfield 44, 3) := by decide +kernel
theorem dX9_pit_14 : decode cX9_pit 14 = .ok (.arraylength, 1) := by decide +kernel
theorem dX9_pit_15 : decode cX9_pit 15 = .ok (.if_icmp .lt 13, 3) := by decide +kernel
theorem dX9_pit_18 : decode cX9_pit 18 = .ok (.new 109, 3) := by decide +kernel
theorem dX9_pit_21 : decode cX9_pit 21 = .ok (.dup, 1) := by decide +kernel
theorem dX9_pit_22 : decode cX9_pit 22 = .ok (.ldc 249, 2) := by decide +kernel
theorem dX9_pit_24 : decode cX9_pit 24 = .ok (.invokespecial 113, 3) := by decide +kernel
theorem dX9_pit_27 : decode cX9_pit 27 = .ok (.athrow, 1) := by decide +kernel
theorem dX9_pit_28 : decode cX9_pit 28 = .ok (.aload_n 0, 1) := by decide +kernel
theorem dX9_pit_29 : decode cX9_pit 29 = .ok (.getfield 44, 3) := by decide +kernel
theorem dX9_pit_32 : decode cX9_pit 32 = .ok (.aload_n 0, 1) := by decide +kernel
theorem dX9_pit_33 : decode cX9_pit 33 = .ok (.getfield 246, 3) := by decide +kernel
theorem dX9_pit_36 : decode cX9_pit 36 = .ok (.new 42, 3) := by decide +kernel
theorem dX9_pit_39 : decode cX9_pit 39 = .ok (.dup, 1) := by decide +kernel
theorem dX9_pit_40 : decode cX9_pit 40 = .ok (.aload_n 2, 1) := by decide +kernel
theorem dX9_pit_41 : decode cX9_pit 41 = .ok (.invokespecial 251, 3) := by decide +kernel
theorem dX9_pit_44 : decode cX9_pit 44 = .ok (.aastore, 1) := by decide +kernel
theorem dX9_pit_45 : decode cX9_pit 45 = .ok (.aload_n 0, 1) := by decide +kernel
theorem dX9_pit_46 : decode cX9_pit 46 = .ok (.dup, 1) := by decide +kernel
theorem dX9_pit_47 : decode cX9_pit 47 = .ok (.getfield 246, 3) := by decide +kernel
theorem dX9_pit_50 : decode cX9_pit 50 = .ok (.iconst 1, 1) := by decide +kernel
theorem dX9_pit_51 : decode cX9_pit 51 = .ok (.iadd, 1) := by decide +kernel
theorem dX9_pit_52 : decode cX9_pit 52 = .ok (.putfield 246, 3) := by decide +kernel
theorem dX9_pit_55 : decode cX9_pit 55 = .ok (.aload_n 0, 1) := by decide +kernel
theorem dX9_pit_56 : decode cX9_pit 56 = .ok (.getfield 246, 3) := by decide +kernel
theorem dX9_pit_59 : decode cX9_pit 59 = .ok (.iconst 1, 1) := by decide +kernel
theorem dX9_pit_60 : decode cX9_pit 60 = .ok (.isub, 1) := by decide +kernel
theorem dX9_pit_61 : decode cX9_pit 61 = .ok (.ireturn, 1) := by decide +kernel
set_option maxRecDepth 20000 in
theorem ggX9_light_X9_needPit : GoodIn wsX9_light wsX9_needPit := goodIn_ca (goodIn_r _ [7, 8, 9, 10, 25, 26, 27, 28, 29, 30, 31, 32, 33, 34, 35, 36, 37, 38, 39, 40] (by decide +kernel) (by decide +kernel)) (goodIn_sub (fun _ h => List.mem_cons_of_mem _ (List.mem_append_right _ h)) (by decide +kernel))
set_option maxRecDepth 20000 in
theorem gX9_light_X9_needPit : GoodIn wsX9_light (wsV RX9 254 RX9 yX9_needPit wsX9_needPit) := goodIn_app (goodIn_of _ (by decide +kernel)) ggX9_light_X9_needPit
set_option maxRecDepth 20000 in
theorem ggX9_light_X9_isWithin : GoodIn wsX9_light wsX9_isWithin := goodIn_r _ [13] (by decide +kernel) (by decide +kernel)
set_option maxRecDepth 20000 in
theorem gX9_light_X9_isWithin : GoodIn wsX9_light (va_wsS RX9 115 yX9_isWithin wsX9_isWithin) := goodIn_app (goodIn_of _ (by decide +kernel)) ggX9_light_X9_isWithin
theorem dX9_light_0 : decode cX9_light 0 = .ok (.aload_n 0, 1) := by decide +kernel
theorem dX9_light_1 : decode cX9_light 1 = .ok (.iload_n 1, 1) := by decide +kernel
theorem dX9_light_2 : decode cX9_light 2 = .ok (.invokevirtual 254, 3) := by decide +kernel
theorem dX9_light_5 : decode cX9_light 5 = .ok (.astore_n 3, 1) := by decide +kernel
theorem dX9_light_6 : decode cX9_light 6 = .ok (.iload_n 2, 1) := by decide +kernel
theorem dX9_light_7 : decode cX9_light 7 = .ok (.bipush 20, 2) := by decide +kernel
theorem dX9_light_9 : decode cX9_light 9 = .ok (.sipush 1000, 3) := by decide +kernel
theorem dX9_light_12 : decode cX9_light 12 = .ok (.invokestatic 115, 3) := by decide +kernel
theorem dX9_light_15 : decode cX9_light 15 = .ok (.ifCond .ne 14, 3) := by decide +kernel
theorem dX9_light_18 : decode cX9_light 18 = .ok (.new 90, 3) := by decide +kernel
theorem dX9_light_21 : decode cX9_light 21 = .ok (.dup, 1) := by decide +kernel
theorem dX9_light_22 : decode cX9_light 22 = .ok (.ldc_w 258, 3) := by decide +kernel
theorem dX9_light_25 : decode cX9_light 25 = .ok (.invokespecial 94, 3) := by decide +kernel
theorem dX9_light_28 : decode cX9_light 28 = .ok (.athrow, 1) := by decide +kernel
theorem dX9_light_29 : decode cX9_light 29 = .ok (.aload_n 3, 1) := by decide +kernel
theorem dX9_light_30 : decode cX9_light 30 = .ok (.getfield 260, 3) := by decide +kernel
theorem dX9_light_33 : decode cX9_light 33 = .ok (.ifCond .gt 14, 3) := by decide +kernel
theorem dX9_light_36 : decode cX9_light 36 = .ok (.aload_n 3, 1) := by decide +kernel
theorem dX9_light_37 : decode cX9_light 37 = .ok (.getfield 263, 3) := by decide +kernel
theorem dX9_light_40 : decode cX9_light 40 = .ok (.getfield 174, 3) := by decide +kernel
theorem dX9_light_43 : decode cX9_light 43 = .ok (.iload_n 2, 1) := by decide +kernel
theorem dX9_light_44 : decode cX9_light 44 = .ok (.if_icmp .ge 5, 3) := by decide +kernel
theorem dX9_light_47 : decode cX9_light 47 = .ok (.iconst 0, 1) := by decide +kernel
theorem dX9_light_48 : decode cX9_light 48 = .ok (.ireturn, 1) := by decide +kernel
theorem dX9_light_49 : decode cX9_light 49 = .ok (.aload_n 3, 1) := by decide +kernel
theorem dX9_light_50 : decode cX9_light 50 = .ok (.getfield 263, 3) := by decide +kernel
theorem dX9_light_53 : decode cX9_light 53 = .ok (.dup, 1) := by decide +kernel
theorem dX9_light_54 : decode cX9_light 54 = .ok (.getfield 174, 3) := by decide +kernel
theorem dX9_light_57 : decode cX9_light 57 = .ok (.iload_n 2, 1) := by decide +kernel
theorem dX9_light_58 : decode cX9_light 58 = .ok (.isub, 1) := by decide +kernel
theorem dX9_light_59 : decode cX9_light 59 = .ok (.putfield 174, 3) := by decide +kernel
theorem dX9_light_62 : decode cX9_light 62 = .ok (.aload_n 3, 1) := by decide +kernel
theorem dX9_light_63 : decode cX9_light 63 = .ok (.iload_n 2, 1) := by decide +kernel
theorem dX9_light_64 : decode cX9_light 64 = .ok (.putfield 267, 3) := by decide +kernel
theorem dX9_light_67 : decode cX9_light 67 = .ok (.aload_n 3, 1) := by decide +kernel
theorem dX9_light_68 : decode cX9_light 68 = .ok (.iconst 3, 1) := by decide +kernel
theorem dX9_light_69 : decode cX9_light 69 = .ok (.putfield 260, 3) := by decide +kernel
theorem dX9_light_72 : decode cX9_light 72 = .ok (.iconst 1, 1) := by decide +kernel
theorem dX9_light_73 : decode cX9_light 73 = .ok (.ireturn, 1) := by decide +kernel
set_option maxRecDepth 20000 in
theorem ggX9_burns_X9_needPit : GoodIn wsX9_burns wsX9_needPit := goodIn_ca (goodIn_r _ [5, 6, 7, 8, 12, 13, 14, 15, 16, 17, 18, 19, 20, 21, 22, 23, 24, 25, 26, 27] (by decide +kernel) (by decide +kernel)) (goodIn_sub (fun _ h => List.mem_cons_of_mem _ (List.mem_append_right _ h)) (by decide +kernel))
set_option maxRecDepth 20000 in
theorem gX9_burns_X9_needPit : GoodIn wsX9_burns (wsV RX9 254 RX9 yX9_needPit wsX9_needPit) := goodIn_app (goodIn_of _ (by decide +kernel)) ggX9_burns_X9_needPit
theorem dX9_burns_0 : decode cX9_burns 0 = .ok (.aload_n 0, 1) := by decide +kernel
theorem dX9_burns_1 : decode cX9_burns 1 = .ok (.iload_n 1, 1) := by decide +kernel
theorem dX9_burns_2 : decode cX9_burns 2 = .ok (.invokevirtual 254, 3) := by decide +kernel
theorem dX9_burns_5 : decode cX9_burns 5 = .ok (.getfield 260, 3) := by decide +kernel
theorem dX9_burns_8 : decode cX9_burns 8 = .ok (.ireturn, 1) := by decide +kernel
set_option maxRecDepth 20000 in
theorem ggX9_sell_X9_needFamily : GoodIn wsX9_sell wsX9_needFamily := goodIn_ca (goodIn_r _ [13, 14, 15, 16, 67, 68, 69, 70, 71, 72, 73, 74, 75, 76, 77, 78, 79, 80, 81, 82] (by decide +kernel) (by decide +kernel)) (goodIn_sub (fun _ h => List.mem_cons_of_mem _ (List.mem_append_left _ (List.mem_append_right _ h))) (by decide +kernel))
set_option maxRecDepth 20000 in
theorem gX9_sell_X9_needFamily : GoodIn wsX9_sell (wsV RX9 101 RX9 yX9_needFamily wsX9_needFamily) := goodIn_app (goodIn_of _ (by decide +kernel)) ggX9_sell_X9_needFamily
set_option maxRecDepth 20000 in
theorem ggX9_sell_X9_needAmount : GoodIn wsX9_sell wsX9_needAmount := goodIn_ca (goodIn_r _ [19, 20, 21, 22, 23, 12, 24] (by decide +kernel) (by decide +kernel)) (goodIn_sub (fun _ h => List.mem_cons_of_mem _ (List.mem_append_right _ h)) (by decide +kernel))
set_option maxRecDepth 20000 in
theorem gX9_sell_X9_needAmount : GoodIn wsX9_sell (va_wsS RX9 222 yX9_needAmount wsX9_needAmount) := goodIn_app (goodIn_of _ (by decide +kernel)) ggX9_sell_X9_needAmount
set_option maxRecDepth 20000 in
theorem ggX9_sell_X9_needTests : GoodIn wsX9_sell wsX9_needTests := goodIn_ca (goodIn_r _ [28, 20, 21, 1, 22, 23, 12, 24, 67, 68, 69, 70, 71, 72, 73, 74, 75, 76, 77, 78, 79, 80, 81, 82] (by decide +kernel) (by decide +kernel)) (goodIn_sub (fun _ h => List.mem_cons_of_mem _ (List.mem_append_right _ h)) (by decide +kernel))
set_option maxRecDepth 20000 in
theorem gX9_sell_X9_needTests : GoodIn wsX9_sell (wsV RX9 270 RX9 yX9_needTests wsX9_needTests) := goodIn_app (goodIn_of _ (by decide +kernel)) ggX9_sell_X9_needTests
set_option maxRecDepth 20000 in
theorem ggX9_sell_X7_isFull : GoodIn wsX9_sell wsX7_isFull := goodIn_r _ [33, 34, 96, 97, 98, 99, 100, 101] (by decide +kernel) (by decide +kernel)
set_option maxRecDepth 20000 in
theorem gX9_sell_X7_isFull : GoodIn wsX9_sell (wsV RX9 276 RX7 yX7_isFull wsX7_isFull) := goodIn_app (goodIn_of _ (by decide +kernel)) ggX9_sell_X7_isFull
set_option maxRecDepth 20000 in
theorem ggX9_sell_X9_sortTests : GoodIn wsX9_sell wsX9_sortTests := goodIn_r _ [38, 1, 39, 40, 41, 42, 43, 44, 45, 67, 68, 69, 70, 71, 72, 73, 74, 75, 76, 77, 78, 79, 80, 81, 82] (by decide +kernel) (by decide +kernel)
set_option maxRecDepth 20000 in
theorem gX9_sell_X9_sortTests : GoodIn wsX9_sell (wsV RX9 280 RX9 yX9_sortTests wsX9_sortTests) := goodIn_app (goodIn_of _ (by decide +kernel)) ggX9_sell_X9_sortTests
set_option maxRecDepth 20000 in
theorem ggX9_sell_X7_addEntry : GoodIn wsX9_sell wsX7_addEntry := goodIn_r _ [49, 50, 34, 51, 52, 53, 54, 55, 30, 31, 32, 33, 96, 97, 98, 99, 100, 101] (by decide +kernel) (by decide +kernel)
set_option maxRecDepth 20000 in
theorem gX9_sell_X7_addEntry : GoodIn wsX9_sell (wsV RX9 283 RX7 yX7_addEntry wsX7_addEntry) := goodIn_app (goodIn_of _ (by decide +kernel)) ggX9_sell_X7_addEntry
set_option maxRecDepth 20000 in
theorem ggX9_sell_X2_init : GoodIn wsX9_sell wsX2_init := goodIn_r _ [58, 59, 60, 61, 62, 63, 64, 65, 66, 91, 92, 93, 94, 95] (by decide +kernel) (by decide +kernel)
set_option maxRecDepth 20000 in
theorem gX9_sell_X2_init : GoodIn wsX9_sell (wsX2_init) := ggX9_sell_X2_init
theorem dX9_sell_0 : decode cX9_sell 0 = .ok (.aload_n 0, 1) := by decide +kernel
theorem dX9_sell_1 : decode cX9_sell 1 = .ok (.iload_n 1, 1) := by decide +kernel
theorem dX9_sell_2 : decode cX9_sell 2 = .ok (.invokevirtual 101, 3) := by decide +kernel
theorem dX9_sell_5 : decode cX9_sell 5 = .ok (.astore 9, 2) := by decide +kernel
theorem dX9_sell_7 : decode cX9_sell 7 = .ok (.iload_n 2, 1) := by decide +kernel
theorem dX9_sell_8 : decode cX9_sell 8 = .ok (.invokestatic 222, 3) := by decide +kernel
theorem dX9_sell_11 : decode cX9_sell 11 = .ok (.aload_n 0, 1) := by decide +kernel
theorem dX9_sell_12 : decode cX9_sell 12 = .ok (.getfield 54, 3) := by decide +kernel
theorem dX9_sell_15 : decode cX9_sell 15 = .ok (.iconst 0, 1) := by decide +kernel
theorem dX9_sell_16 : decode cX9_sell 16 = .ok (.iload 4, 2) := by decide +kernel
theorem dX9_sell_18 : decode cX9_sell 18 = .ok (.iastore, 1) := by decide +kernel
theorem dX9_sell_19 : decode cX9_sell 19 = .ok (.aload_n 0, 1) := by decide +kernel
theorem dX9_sell_20 : decode cX9_sell 20 = .ok (.getfield 54, 3) := by decide +kernel
theorem dX9_sell_23 : decode cX9_sell 23 = .ok (.iconst 1, 1) := by decide +kernel
theorem dX9_sell_24 : decode cX9_sell 24 = .ok (.iload 5, 2) := by decide +kernel
theorem dX9_sell_26 : decode cX9_sell 26 = .ok (.iastore, 1) := by decide +kernel
theorem dX9_sell_27 : decode cX9_sell 27 = .ok (.aload_n 0, 1) := by decide +kernel
theorem dX9_sell_28 : decode cX9_sell 28 = .ok (.getfield 54, 3) := by decide +kernel
theorem dX9_sell_31 : decode cX9_sell 31 = .ok (.iconst 2, 1) := by decide +kernel
theorem dX9_sell_32 : decode cX9_sell 32 = .ok (.iload 6, 2) := by decide +kernel
theorem dX9_sell_34 : decode cX9_sell 34 = .ok (.iastore, 1) := by decide +kernel
theorem dX9_sell_35 : decode cX9_sell 35 = .ok (.aload_n 0, 1) := by decide +kernel
theorem dX9_sell_36 : decode cX9_sell 36 = .ok (.getfield 54, 3) := by decide +kernel
theorem dX9_sell_39 : decode cX9_sell 39 = .ok (.iconst 3, 1) := by decide +kernel
theorem dX9_sell_40 : decode cX9_sell 40 = .ok (.iload 7, 2) := by decide +kernel
theorem dX9_sell_42 : decode cX9_sell 42 = .ok (.iastore, 1) := by decide +kernel
theorem dX9_sell_43 : decode cX9_sell 43 = .ok (.aload_n 0, 1) := by decide +kernel
theorem dX9_sell_44 : decode cX9_sell 44 = .ok (.getfield 54, 3) := by decide +kernel
theorem dX9_sell_47 : decode cX9_sell 47 = .ok (.iconst 4, 1) := by decide +kernel
theorem dX9_sell_48 : decode cX9_sell 48 = .ok (.iload 8, 2) := by decide +kernel
theorem dX9_sell_50 : decode cX9_sell 50 = .ok (.iastore, 1) := by decide +kernel
theorem dX9_sell_51 : decode cX9_sell 51 = .ok (.aload_n 0, 1) := by decide +kernel
theorem dX9_sell_52 : decode cX9_sell 52 = .ok (.iload_n 3, 1) := by decide +kernel
theorem dX9_sell_53 : decode cX9_sell 53 = .ok (.invokevirtual 270, 3) := by decide +kernel
theorem dX9_sell_56 : decode cX9_sell 56 = .ok (.aload 9, 2) := by decide +kernel
theorem dX9_sell_58 : decode cX9_sell 58 = .ok (.getfield 177, 3) := by decide +kernel
theorem dX9_sell_61 : decode cX9_sell 61 = .ok (.iload_n 2, 1) := by decide +kernel
theorem dX9_sell_62 : decode cX9_sell 62 = .ok (.if_icmp .lt 25, 3) := by decide +kernel
theorem dX9_sell_65 : decode cX9_sell 65 = .ok (.aload_n 0, 1) := by decide +kernel
theorem dX9_sell_66 : decode cX9_sell 66 = .ok (.getfield 273, 3) := by decide +kernel
theorem dX9_sell_69 : decode cX9_sell 69 = .ok (.aload_n 0, 1) := by decide +kernel
theorem dX9_sell_70 : decode cX9_sell 70 = .ok (.getfield 50, 3) := by decide +kernel
theorem dX9_sell_73 : decode cX9_sell 73 = .ok (.arraylength, 1) := by decide +kernel
theorem dX9_sell_74 : decode cX9_sell 74 = .ok (.if_icmp .ge 13, 3) := by decide +kernel
theorem dX9_sell_77 : decode cX9_sell 77 = .ok (.aload_n 0, 1) := by decide +kernel
theorem dX9_sell_78 : decode cX9_sell 78 = .ok (.getfield 61, 3) := by decide +kernel
theorem dX9_sell_81 : decode cX9_sell 81 = .ok (.invokevirtual 276, 3) := by decide +kernel
theorem dX9_sell_84 : decode cX9_sell 84 = .ok (.ifCond .eq 5, 3) := by decide +kernel
theorem dX9_sell_87 : decode cX9_sell 87 = .ok (.iconst (-1), 1) := by decide +kernel
theorem dX9_sell_88 : decode cX9_sell 88 = .ok (.ireturn, 1) := by decide +kernel
theorem dX9_sell_89 : decode cX9_sell 89 = .ok (.aload_n 0, 1) := by decide +kernel
theorem dX9_sell_90 : decode cX9_sell 90 = .ok (.iload_n 3, 1) := by decide +kernel
theorem dX9_sell_91 : decode cX9_sell 91 = .ok (.invokevirtual 280, 3) := by decide +kernel
theorem dX9_sell_94 : decode cX9_sell 94 = .ok (.aload_n 0, 1) := by decide +kernel
theorem dX9_sell_95 : decode cX9_sell 95 = .ok (.getfield 54, 3) := by decide +kernel
theorem dX9_sell_98 : decode cX9_sell 98 = .ok (.iload_n 3, 1) := by decide +kernel
theorem dX9_sell_99 : decode cX9_sell 99 = .ok (.iconst 1, 1) := by decide +kernel
theorem dX9_sell_100 : decode cX9_sell 100 = .ok (.isub, 1) := by decide +kernel
theorem dX9_sell_101 : decode cX9_sell 101 = .ok (.iaload, 1) := by decide +kernel
theorem dX9_sell_102 : decode cX9_sell 102 = .ok (.aload_n 0, 1) := by decide +kernel
theorem dX9_sell_103 : decode cX9_sell 103 = .ok (.getfield 54, 3) := by decide +kernel
theorem dX9_sell_106 : decode cX9_sell 106 = .ok (.iconst 0, 1) := by decide +kernel
theorem dX9_sell_107 : decode cX9_sell 107 = .ok (.iaload, 1) := by decide +kernel
theorem dX9_sell_108 : decode cX9_sell 108 = .ok (.isub, 1) := by decide +kernel
theorem dX9_sell_109 : decode cX9_sell 109 = .ok (.bipush 20, 2) := by decide +kernel
theorem dX9_sell_111 : decode cX9_sell 111 = .ok (.if_icmp .le 7, 3) := by decide +kernel
theorem dX9_sell_114 : decode cX9_sell 114 = .ok (.iconst 1, 1) := by decide +kernel
theorem dX9_sell_115 : decode cX9_sell 115 = .ok (.goto 4, 3) := by decide +kernel
theorem dX9_sell_118 : decode cX9_sell 118 = .ok (.iconst 0, 1) := by decide +kernel
theorem dX9_sell_119 : decode cX9_sell 119 = .ok (.istore 10, 2) := by decide +kernel
theorem dX9_sell_121 : decode cX9_sell 121 = .ok (.iload 10, 2) := by decide +kernel
theorem dX9_sell_123 : decode cX9_sell 123 = .ok (.ifCond .eq 12, 3) := by decide +kernel
theorem dX9_sell_126 : decode cX9_sell 126 = .ok (.aload_n 0, 1) := by decide +kernel
theorem dX9_sell_127 : decode cX9_sell 127 = .ok (.getfield 54, 3) := by decide +kernel
theorem dX9_sell_130 : decode cX9_sell 130 = .ok (.iconst 0, 1) := by decide +kernel
theorem dX9_sell_131 : decode cX9_sell 131 = .ok (.iaload, 1) := by decide +kernel
theorem dX9_sell_132 : decode cX9_sell 132 = .ok (.goto 13, 3) := by decide +kernel
theorem dX9_sell_135 : decode cX9_sell 135 = .ok (.aload_n 0, 1) := by decide +kernel
theorem dX9_sell_136 : decode cX9_sell 136 = .ok (.getfield 54, 3) := by decide +kernel
theorem dX9_sell_139 : decode cX9_sell 139 = .ok (.iload_n 3, 1) := by decide +kernel
theorem dX9_sell_140 : decode cX9_sell 140 = .ok (.iconst 1, 1) := by decide +kernel
theorem dX9_sell_141 : decode cX9_sell 141 = .ok (.isub, 1) := by decide +kernel
theorem dX9_sell_142 : decode cX9_sell 142 = .ok (.iconst 2, 1) := by decide +kernel
theorem dX9_sell_143 : decode cX9_sell 143 = .ok (.idiv, 1) := by decide +kernel
theorem dX9_sell_144 : decode cX9_sell 144 = .ok (.iaload, 1) := by decide +kernel
theorem dX9_sell_145 : decode cX9_sell 145 = .ok (.istore 11, 2) := by decide +kernel
theorem dX9_sell_147 : decode cX9_sell 147 = .ok (.aload_n 0, 1) := by decide +kernel
theorem dX9_sell_148 : decode cX9_sell 148 = .ok (.getfield 61, 3) := by decide +kernel
theorem dX9_sell_151 : decode cX9_sell 151 = .ok (.iload_n 1, 1) := by decide +kernel
theorem dX9_sell_152 : decode cX9_sell 152 = .ok (.iload_n 2, 1) := by decide +kernel
theorem dX9_sell_153 : decode cX9_sell 153 = .ok (.iload 11, 2) := by decide +kernel
theorem dX9_sell_155 : decode cX9_sell 155 = .ok (.imul, 1) := by decide +kernel
theorem dX9_sell_156 : decode cX9_sell 156 = .ok (.aload_n 0, 1) := by decide +kernel
theorem dX9_sell_157 : decode cX9_sell 157 = .ok (.getfield 202, 3) := by decide +kernel
theorem dX9_sell_160 : decode cX9_sell 160 = .ok (.aload_n 0, 1) := by decide +kernel
theorem dX9_sell_161 : decode cX9_sell 161 = .ok (.getfield 202, 3) := by decide +kernel
theorem dX9_sell_164 : decode cX9_sell 164 = .ok (.invokevirtual 283, 3) := by decide +kernel
theorem dX9_sell_167 : decode cX9_sell 167 = .ok (.istore 12, 2) := by decide +kernel
theorem dX9_sell_169 : decode cX9_sell 169 = .ok (.aload 9, 2) := by decide +kernel
theorem dX9_sell_171 : decode cX9_sell 171 = .ok (.dup, 1) := by decide +kernel
theorem dX9_sell_172 : decode cX9_sell 172 = .ok (.getfield 177, 3) := by decide +kernel
theorem dX9_sell_175 : decode cX9_sell 175 = .ok (.iload_n 2, 1) := by decide +kernel
theorem dX9_sell_176 : decode cX9_sell 176 = .ok (.isub, 1) := by decide +kernel
theorem dX9_sell_177 : decode cX9_sell 177 = .ok (.putfield 177, 3) := by decide +kernel
theorem dX9_sell_180 : decode cX9_sell 180 = .ok (.aload_n 0, 1) := by decide +kernel
theorem dX9_sell_181 : decode cX9_sell 181 = .ok (.getfield 50, 3) := by decide +kernel
theorem dX9_sell_184 : decode cX9_sell 184 = .ok (.aload_n 0, 1) := by decide +kernel
theorem dX9_sell_185 : decode cX9_sell 185 = .ok (.getfield 273, 3) := by decide +kernel
theorem dX9_sell_188 : decode cX9_sell 188 = .ok (.new 48, 3) := by decide +kernel
theorem dX9_sell_191 : decode cX9_sell 191 = .ok (.dup, 1) := by decide +kernel
theorem dX9_sell_192 : decode cX9_sell 192 = .ok (.iload_n 1, 1) := by decide +kernel
theorem dX9_sell_193 : decode cX9_sell 193 = .ok (.iload_n 2, 1) := by decide +kernel
theorem dX9_sell_194 : decode cX9_sell 194 = .ok (.iload 11, 2) := by decide +kernel
theorem dX9_sell_196 : decode cX9_sell 196 = .ok (.iload 10, 2) := by decide +kernel
theorem dX9_sell_198 : decode cX9_sell 198 = .ok (.iload 12, 2) := by decide +kernel
theorem dX9_sell_200 : decode cX9_sell 200 = .ok (.invokespecial 287, 3) := by decide +kernel
theorem dX9_sell_203 : decode cX9_sell 203 = .ok (.aastore, 1) := by decide +kernel
theorem dX9_sell_204 : decode cX9_sell 204 = .ok (.aload_n 0, 1) := by decide +kernel
theorem dX9_sell_205 : decode cX9_sell 205 = .ok (.dup, 1) := by decide +kernel
theorem dX9_sell_206 : decode cX9_sell 206 = .ok (.getfield 273, 3) := by decide +kernel
theorem dX9_sell_209 : decode cX9_sell 209 = .ok (.iconst 1, 1) := by decide +kernel
theorem dX9_sell_210 : decode cX9_sell 210 = .ok (.iadd, 1) := by decide +kernel
theorem dX9_sell_211 : decode cX9_sell 211 = .ok (.putfield 273, 3) := by decide +kernel
theorem dX9_sell_214 : decode cX9_sell 214 = .ok (.aload_n 0, 1) := by decide +kernel
theorem dX9_sell_215 : decode cX9_sell 215 = .ok (.getfield 273, 3) := by decide +kernel
theorem dX9_sell_218 : decode cX9_sell 218 = .ok (.iconst 1, 1) := by decide +kernel
theorem dX9_sell_219 : decode cX9_sell 219 = .ok (.isub, 1) := by decide +kernel
theorem dX9_sell_220 : decode cX9_sell 220 = .ok (.ireturn, 1) := by decide +kernel
set_option maxRecDepth 20000 in
theorem ggX9_lot_X9_needLot : GoodIn wsX9_lot wsX9_needLot := goodIn_ca (goodIn_r _ [7, 8, 9, 10, 16, 17, 18, 19, 20, 21, 22, 23, 24, 25, 26, 27, 28, 29, 30, 31] (by decide +kernel) (by decide +kernel)) (goodIn_sub (fun _ h => List.mem_cons_of_mem _ (List.mem_append_right _ h)) (by decide +kernel))
set_option maxRecDepth 20000 in
theorem gX9_lot_X9_needLot : GoodIn wsX9_lot (wsV RX9 290 RX9 yX9_needLot wsX9_needLot) := goodIn_app (goodIn_of _ (by decide +kernel)) ggX9_lot_X9_needLot
theorem dX9_lot_0 : decode cX9_lot 0 = .ok (.aload_n 0, 1) := by decide +kernel
theorem dX9_lot_1 : decode cX9_lot 1 = .ok (.iload_n 1, 1) := by decide +kernel
theorem dX9_lot_2 : decode cX9_lot 2 = .ok (.invokevirtual 290, 3) := by decide +kernel
theorem dX9_lot_5 : decode cX9_lot 5 = .ok (.astore_n 3, 1) := by decide +kernel
theorem dX9_lot_6 : decode cX9_lot 6 = .ok (.iload_n 2, 1) := by decide +kernel
theorem dX9_lot_7 : decode cX9_lot 7 = .ok (.tableswitch 80 0 5 #[37, 42, 47, 52, 65, 75], 37) := by decide +kernel
theorem dX9_lot_44 : decode cX9_lot 44 = .ok (.aload_n 3, 1) := by decide +kernel
theorem dX9_lot_45 : decode cX9_lot 45 = .ok (.getfield 294, 3) := by decide +kernel
theorem dX9_lot_48 : decode cX9_lot 48 = .ok (.ireturn, 1) := by decide +kernel
theorem dX9_lot_49 : decode cX9_lot 49 = .ok (.aload_n 3, 1) := by decide +kernel
theorem dX9_lot_50 : decode cX9_lot 50 = .ok (.getfield 297, 3) := by decide +kernel
theorem dX9_lot_53 : decode cX9_lot 53 = .ok (.ireturn, 1) := by decide +kernel
theorem dX9_lot_54 : decode cX9_lot 54 = .ok (.aload_n 3, 1) := by decide +kernel
theorem dX9_lot_55 : decode cX9_lot 55 = .ok (.getfield 300, 3) := by decide +kernel
theorem dX9_lot_58 : decode cX9_lot 58 = .ok (.ireturn, 1) := by decide +kernel
theorem dX9_lot_59 : decode cX9_lot 59 = .ok (.aload_n 3, 1) := by decide +kernel
theorem dX9_lot_60 : decode cX9_lot 60 = .ok (.getfield 303, 3) := by decide +kernel
theorem dX9_lot_63 : decode cX9_lot 63 = .ok (.ifCond .eq 7, 3) := by decide +kernel
theorem dX9_lot_66 : decode cX9_lot 66 = .ok (.iconst 1, 1) := by decide +kernel
theorem dX9_lot_67 : decode cX9_lot 67 = .ok (.goto 4, 3) := by decide +kernel
theorem dX9_lot_70 : decode cX9_lot 70 = .ok (.iconst 0, 1) := by decide +kernel
theorem dX9_lot_71 : decode cX9_lot 71 = .ok (.ireturn, 1) := by decide +kernel
theorem dX9_lot_72 : decode cX9_lot 72 = .ok (.aload_n 3, 1) := by decide +kernel
theorem dX9_lot_73 : decode cX9_lot 73 = .ok (.getfield 297, 3) := by decide +kernel
theorem dX9_lot_76 : decode cX9_lot 76 = .ok (.aload_n 3, 1) := by decide +kernel
theorem dX9_lot_77 : decode cX9_lot 77 = .ok (.getfield 300, 3) := by decide +kernel
theorem dX9_lot_80 : decode cX9_lot 80 = .ok (.imul, 1) := by decide +kernel
theorem dX9_lot_81 : decode cX9_lot 81 = .ok (.ireturn, 1) := by decide +kernel
theorem dX9_lot_82 : decode cX9_lot 82 = .ok (.aload_n 3, 1) := by decide +kernel
theorem dX9_lot_83 : decode cX9_lot 83 = .ok (.getfield 307, 3) := by decide +kernel
theorem dX9_lot_86 : decode cX9_lot 86 = .ok (.ireturn, 1) := by decide +kernel
theorem dX9_lot_87 : decode cX9_lot 87 = .ok (.new 163, 3) := by decide +kernel
theorem dX9_lot_90 : decode cX9_lot 90 = .ok (.dup, 1) := by decide +kernel
theorem dX9_lot_91 : decode cX9_lot 91 = .ok (.ldc_w 310, 3) := by decide +kernel
theorem dX9_lot_94 : decode cX9_lot 94 = .ok (.invokespecial 167, 3) := by decide +kernel
theorem dX9_lot_97 : decode cX9_lot 97 = .ok (.athrow, 1) := by decide +kernel
set_option maxRecDepth 20000 in
theorem ggX9_enter_X9_needFamily : GoodIn wsX9_enter wsX9_needFamily := goodIn_ca (goodIn_r _ [11, 12, 13, 14, 34, 35, 36, 37, 38, 39, 40, 41, 42, 43, 44, 45, 46, 47, 48, 49] (by decide +kernel) (by decide +kernel)) (goodIn_sub (fun _ h => List.mem_cons_of_mem _ (List.mem_append_right _ h)) (by decide +kernel))
set_option maxRecDepth 20000 in
theorem gX9_enter_X9_needFamily : GoodIn wsX9_enter (wsV RX9 101 RX9 yX9_needFamily wsX9_needFamily) := goodIn_app (goodIn_of _ (by decide +kernel)) ggX9_enter_X9_needFamily
set_option maxRecDepth 20000 in
theorem ggX9_enter_X9_isWithin : GoodIn wsX9_enter wsX9_isWithin := goodIn_r _ [17] (by decide +kernel) (by decide +kernel)
set_option maxRecDepth 20000 in
theorem gX9_enter_X9_isWithin : GoodIn wsX9_enter (va_wsS RX9 115 yX9_isWithin wsX9_isWithin) := goodIn_app (goodIn_of _ (by decide +kernel)) ggX9_enter_X9_isWithin
set_option maxRecDepth 20000 in
theorem ggX9_enter_X7_isFull : GoodIn wsX9_enter wsX7_isFull := goodIn_r _ [22, 23, 50, 51, 52, 53, 54, 55] (by decide +kernel) (by decide +kernel)
set_option maxRecDepth 20000 in
theorem gX9_enter_X7_isFull : GoodIn wsX9_enter (wsV RX9 276 RX7 yX7_isFull wsX7_isFull) := goodIn_app (goodIn_of _ (by decide +kernel)) ggX9_enter_X7_isFull
set_option maxRecDepth 20000 in
theorem ggX9_enter_X7_addEntry : GoodIn wsX9_enter wsX7_addEntry := goodIn_r _ [27, 28, 23, 29, 30, 31, 32, 33, 19, 20, 21, 22, 50, 51, 52, 53, 54, 55] (by decide +kernel) (by decide +kernel)
set_option maxRecDepth 20000 in
theorem gX9_enter_X7_addEntry : GoodIn wsX9_enter (wsV RX9 283 RX7 yX7_addEntry wsX7_addEntry) := goodIn_app (goodIn_of _ (by decide +kernel)) ggX9_enter_X7_addEntry
