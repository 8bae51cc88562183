theorem dX10_pitDay_36 : decode cX10_pitDay 36 = .ok (.idiv, 1) := by decide +kernel
theorem dX10_pitDay_37 : decode cX10_pitDay 37 = .ok (.iadd, 1) := by decide +kernel
theorem dX10_pitDay_38 : decode cX10_pitDay 38 = .ok (.iastore, 1) := by decide +kernel
theorem dX10_pitDay_39 : decode cX10_pitDay 39 = .ok (.aload_n 0, 1) := by decide +kernel
theorem dX10_pitDay_40 : decode cX10_pitDay 40 = .ok (.getfield 61, 3) := by decide +kernel
theorem dX10_pitDay_43 : decode cX10_pitDay 43 = .ok (.iload_n 3, 1) := by decide +kernel
theorem dX10_pitDay_44 : decode cX10_pitDay 44 = .ok (.dup2, 1) := by decide +kernel
theorem dX10_pitDay_45 : decode cX10_pitDay 45 = .ok (.iaload, 1) := by decide +kernel
theorem dX10_pitDay_46 : decode cX10_pitDay 46 = .ok (.aload_n 0, 1) := by decide +kernel
theorem dX10_pitDay_47 : decode cX10_pitDay 47 = .ok (.getfield 70, 3) := by decide +kernel
theorem dX10_pitDay_50 : decode cX10_pitDay 50 = .ok (.iload_n 1, 1) := by decide +kernel
theorem dX10_pitDay_51 : decode cX10_pitDay 51 = .ok (.iaload, 1) := by decide +kernel
theorem dX10_pitDay_52 : decode cX10_pitDay 52 = .ok (.aload_n 0, 1) := by decide +kernel
theorem dX10_pitDay_53 : decode cX10_pitDay 53 = .ok (.getfield 70, 3) := by decide +kernel
theorem dX10_pitDay_56 : decode cX10_pitDay 56 = .ok (.iload_n 1, 1) := by decide +kernel
theorem dX10_pitDay_57 : decode cX10_pitDay 57 = .ok (.iaload, 1) := by decide +kernel
theorem dX10_pitDay_58 : decode cX10_pitDay 58 = .ok (.iconst 2, 1) := by decide +kernel
theorem dX10_pitDay_59 : decode cX10_pitDay 59 = .ok (.idiv, 1) := by decide +kernel
theorem dX10_pitDay_60 : decode cX10_pitDay 60 = .ok (.isub, 1) := by decide +kernel
theorem dX10_pitDay_61 : decode cX10_pitDay 61 = .ok (.iadd, 1) := by decide +kernel
theorem dX10_pitDay_62 : decode cX10_pitDay 62 = .ok (.iastore, 1) := by decide +kernel
theorem dX10_pitDay_63 : decode cX10_pitDay 63 = .ok (.aload_n 0, 1) := by decide +kernel
theorem dX10_pitDay_64 : decode cX10_pitDay 64 = .ok (.getfield 73, 3) := by decide +kernel
theorem dX10_pitDay_67 : decode cX10_pitDay 67 = .ok (.iload_n 1, 1) := by decide +kernel
theorem dX10_pitDay_68 : decode cX10_pitDay 68 = .ok (.iconst 0, 1) := by decide +kernel
theorem dX10_pitDay_69 : decode cX10_pitDay 69 = .ok (.iastore, 1) := by decide +kernel
theorem dX10_pitDay_70 : decode cX10_pitDay 70 = .ok (.return_, 1) := by decide +kernel
theorem dX10_pitDay_71 : decode cX10_pitDay 71 = .ok (.aload_n 0, 1) := by decide +kernel
theorem dX10_pitDay_72 : decode cX10_pitDay 72 = .ok (.getfield 73, 3) := by decide +kernel
theorem dX10_pitDay_75 : decode cX10_pitDay 75 = .ok (.iload_n 1, 1) := by decide +kernel
theorem dX10_pitDay_76 : decode cX10_pitDay 76 = .ok (.dup2, 1) := by decide +kernel
theorem dX10_pitDay_77 : decode cX10_pitDay 77 = .ok (.iaload, 1) := by decide +kernel
theorem dX10_pitDay_78 : decode cX10_pitDay 78 = .ok (.iconst 1, 1) := by decide +kernel
theorem dX10_pitDay_79 : decode cX10_pitDay 79 = .ok (.isub, 1) := by decide +kernel
theorem dX10_pitDay_80 : decode cX10_pitDay 80 = .ok (.iastore, 1) := by decide +kernel
theorem dX10_pitDay_81 : decode cX10_pitDay 81 = .ok (.aload_n 0, 1) := by decide +kernel
theorem dX10_pitDay_82 : decode cX10_pitDay 82 = .ok (.getfield 73, 3) := by decide +kernel
theorem dX10_pitDay_85 : decode cX10_pitDay 85 = .ok (.iload_n 1, 1) := by decide +kernel
theorem dX10_pitDay_86 : decode cX10_pitDay 86 = .ok (.iaload, 1) := by decide +kernel
theorem dX10_pitDay_87 : decode cX10_pitDay 87 = .ok (.ifCond .ne 20, 3) := by decide +kernel
theorem dX10_pitDay_90 : decode cX10_pitDay 90 = .ok (.aload_n 0, 1) := by decide +kernel
theorem dX10_pitDay_91 : decode cX10_pitDay 91 = .ok (.getfield 52, 3) := by decide +kernel
theorem dX10_pitDay_94 : decode cX10_pitDay 94 = .ok (.iload_n 3, 1) := by decide +kernel
theorem dX10_pitDay_95 : decode cX10_pitDay 95 = .ok (.dup2, 1) := by decide +kernel
theorem dX10_pitDay_96 : decode cX10_pitDay 96 = .ok (.iaload, 1) := by decide +kernel
theorem dX10_pitDay_97 : decode cX10_pitDay 97 = .ok (.aload_n 0, 1) := by decide +kernel
theorem dX10_pitDay_98 : decode cX10_pitDay 98 = .ok (.getfield 70, 3) := by decide +kernel
theorem dX10_pitDay_101 : decode cX10_pitDay 101 = .ok (.iload_n 1, 1) := by decide +kernel
theorem dX10_pitDay_102 : decode cX10_pitDay 102 = .ok (.iaload, 1) := by decide +kernel
theorem dX10_pitDay_103 : decode cX10_pitDay 103 = .ok (.iconst 5, 1) := by decide +kernel
theorem dX10_pitDay_104 : decode cX10_pitDay 104 = .ok (.idiv, 1) := by decide +kernel
theorem dX10_pitDay_105 : decode cX10_pitDay 105 = .ok (.iadd, 1) := by decide +kernel
theorem dX10_pitDay_106 : decode cX10_pitDay 106 = .ok (.iastore, 1) := by decide +kernel
theorem dX10_pitDay_107 : decode cX10_pitDay 107 = .ok (.return_, 1) := by decide +kernel
set_option maxRecDepth 20000 in
theorem ggX10_day_X10_in : GoodIn wsX10_day wsX10_in := goodIn_r _ [10] (by decide +kernel) (by decide +kernel)
set_option maxRecDepth 20000 in
theorem gX10_day_X10_in : GoodIn wsX10_day (va_wsS RX10 133 yX10_in wsX10_in) := goodIn_app (goodIn_of _ (by decide +kernel)) ggX10_day_X10_in
set_option maxRecDepth 20000 in
theorem ggX10_day_X10_throwsIf : GoodIn wsX10_day wsX10_throwsIf := goodIn_r _ [14, 1, 44, 45, 46, 47, 48, 49, 50, 51, 52, 53, 54, 55, 56, 57, 58, 59, 60, 61, 62, 63, 64, 65, 66, 67, 68, 69, 70, 71, 72, 73, 74, 75, 76, 77, 78, 79, 80, 81, 82, 83, 84, 85, 86, 87, 88, 89, 90, 91, 92, 93, 94, 95, 96] (by decide +kernel) (by decide +kernel)
set_option maxRecDepth 20000 in
theorem gX10_day_X10_throwsIf : GoodIn wsX10_day (wsV RX10 141 RX10 yX10_throwsIf wsX10_throwsIf) := goodIn_app (goodIn_of _ (by decide +kernel)) ggX10_day_X10_throwsIf
set_option maxRecDepth 20000 in
theorem ggX10_day_X10_shoreDay : GoodIn wsX10_day wsX10_shoreDay := goodIn_r _ [18, 19, 2, 20, 21, 22, 23, 24, 25, 44, 45, 46, 47, 48, 49, 50, 51, 52, 53, 54, 55, 56, 57, 58, 59, 60, 61, 62, 63, 64, 65, 66, 67, 68, 69, 70, 71, 72, 73, 74, 75, 76, 77, 78, 79, 80, 81, 82, 83, 84, 85, 86, 87, 88, 89, 90, 91, 92, 93, 94, 95, 96] (by decide +kernel) (by decide +kernel)
set_option maxRecDepth 20000 in
theorem gX10_day_X10_shoreDay : GoodIn wsX10_day (wsV RX10 158 RX10 yX10_shoreDay wsX10_shoreDay) := goodIn_app (goodIn_of _ (by decide +kernel)) ggX10_day_X10_shoreDay
set_option maxRecDepth 20000 in
theorem ggX10_day_X10_familyDay : GoodIn wsX10_day wsX10_familyDay := goodIn_r _ [29, 30, 31, 32, 33, 34, 44, 45, 46, 47, 48, 49, 50, 51, 52, 53, 54, 55, 56, 57, 58, 59, 60, 61, 62, 63, 64, 65, 66, 67, 68, 69, 70, 71, 72, 73, 74, 75, 76, 77, 78, 79, 80, 81, 82, 83, 84, 85, 86, 87, 88, 89, 90, 91, 92, 93, 94, 95, 96] (by decide +kernel) (by decide +kernel)
set_option maxRecDepth 20000 in
theorem gX10_day_X10_familyDay : GoodIn wsX10_day (wsV RX10 162 RX10 yX10_familyDay wsX10_familyDay) := goodIn_app (goodIn_of _ (by decide +kernel)) ggX10_day_X10_familyDay
set_option maxRecDepth 20000 in
theorem ggX10_day_X10_pitDay : GoodIn wsX10_day wsX10_pitDay := goodIn_r _ [38, 39, 40, 30, 41, 42, 43, 44, 45, 46, 47, 48, 49, 50, 51, 52, 53, 54, 55, 56, 57, 58, 59, 60, 61, 62, 63, 64, 65, 66, 67, 68, 69, 70, 71, 72, 73, 74, 75, 76, 77, 78, 79, 80, 81, 82, 83, 84, 85, 86, 87, 88, 89, 90, 91, 92, 93, 94, 95, 96] (by decide +kernel) (by decide +kernel)
set_option maxRecDepth 20000 in
theorem gX10_day_X10_pitDay : GoodIn wsX10_day (wsV RX10 169 RX10 yX10_pitDay wsX10_pitDay) := goodIn_app (goodIn_of _ (by decide +kernel)) ggX10_day_X10_pitDay
theorem dX10_day_0 : decode cX10_day 0 = .ok (.aload_n 0, 1) := by decide +kernel
theorem dX10_day_1 : decode cX10_day 1 = .ok (.iconst 0, 1) := by decide +kernel
theorem dX10_day_2 : decode cX10_day 2 = .ok (.putfield 127, 3) := by decide +kernel
theorem dX10_day_5 : decode cX10_day 5 = .ok (.aload_n 0, 1) := by decide +kernel
theorem dX10_day_6 : decode cX10_day 6 = .ok (.iload_n 1, 1) := by decide +kernel
theorem dX10_day_7 : decode cX10_day 7 = .ok (.iconst 0, 1) := by decide +kernel
theorem dX10_day_8 : decode cX10_day 8 = .ok (.bipush 9, 2) := by decide +kernel
theorem dX10_day_10 : decode cX10_day 10 = .ok (.invokestatic 133, 3) := by decide +kernel
theorem dX10_day_13 : decode cX10_day 13 = .ok (.ifCond .eq 34, 3) := by decide +kernel
theorem dX10_day_16 : decode cX10_day 16 = .ok (.iload_n 2, 1) := by decide +kernel
theorem dX10_day_17 : decode cX10_day 17 = .ok (.iconst 0, 1) := by decide +kernel
theorem dX10_day_18 : decode cX10_day 18 = .ok (.bipush 9, 2) := by decide +kernel
theorem dX10_day_20 : decode cX10_day 20 = .ok (.invokestatic 133, 3) := by decide +kernel
theorem dX10_day_23 : decode cX10_day 23 = .ok (.ifCond .eq 24, 3) := by decide +kernel
theorem dX10_day_26 : decode cX10_day 26 = .ok (.iload_n 3, 1) := by decide +kernel
theorem dX10_day_27 : decode cX10_day 27 = .ok (.iconst 0, 1) := by decide +kernel
theorem dX10_day_28 : decode cX10_day 28 = .ok (.bipush 9, 2) := by decide +kernel
theorem dX10_day_30 : decode cX10_day 30 = .ok (.invokestatic 133, 3) := by decide +kernel
theorem dX10_day_33 : decode cX10_day 33 = .ok (.ifCond .eq 14, 3) := by decide +kernel
theorem dX10_day_36 : decode cX10_day 36 = .ok (.iload 4, 2) := by decide +kernel
theorem dX10_day_38 : decode cX10_day 38 = .ok (.iconst 0, 1) := by decide +kernel
theorem dX10_day_39 : decode cX10_day 39 = .ok (.bipush 9, 2) := by decide +kernel
theorem dX10_day_41 : decode cX10_day 41 = .ok (.invokestatic 133, 3) := by decide +kernel
theorem dX10_day_44 : decode cX10_day 44 = .ok (.ifCond .ne 7, 3) := by decide +kernel
theorem dX10_day_47 : decode cX10_day 47 = .ok (.iconst 1, 1) := by decide +kernel
theorem dX10_day_48 : decode cX10_day 48 = .ok (.goto 4, 3) := by decide +kernel
theorem dX10_day_51 : decode cX10_day 51 = .ok (.iconst 0, 1) := by decide +kernel
theorem dX10_day_52 : decode cX10_day 52 = .ok (.iconst 1, 1) := by decide +kernel
theorem dX10_day_53 : decode cX10_day 53 = .ok (.invokevirtual 141, 3) := by decide +kernel
theorem dX10_day_56 : decode cX10_day 56 = .ok (.ifCond .ne 26, 3) := by decide +kernel
theorem dX10_day_59 : decode cX10_day 59 = .ok (.aload_n 0, 1) := by decide +kernel
theorem dX10_day_60 : decode cX10_day 60 = .ok (.aload_n 0, 1) := by decide +kernel
theorem dX10_day_61 : decode cX10_day 61 = .ok (.getfield 148, 3) := by decide +kernel
theorem dX10_day_64 : decode cX10_day 64 = .ok (.sipush 9999, 3) := by decide +kernel
theorem dX10_day_67 : decode cX10_day 67 = .ok (.if_icmp .ne 7, 3) := by decide +kernel
theorem dX10_day_70 : decode cX10_day 70 = .ok (.iconst 1, 1) := by decide +kernel
theorem dX10_day_71 : decode cX10_day 71 = .ok (.goto 4, 3) := by decide +kernel
theorem dX10_day_74 : decode cX10_day 74 = .ok (.iconst 0, 1) := by decide +kernel
theorem dX10_day_75 : decode cX10_day 75 = .ok (.iconst 2, 1) := by decide +kernel
theorem dX10_day_76 : decode cX10_day 76 = .ok (.invokevirtual 141, 3) := by decide +kernel
theorem dX10_day_79 : decode cX10_day 79 = .ok (.ifCond .eq 5, 3) := by decide +kernel
theorem dX10_day_82 : decode cX10_day 82 = .ok (.iconst 0, 1) := by decide +kernel
theorem dX10_day_83 : decode cX10_day 83 = .ok (.ireturn, 1) := by decide +kernel
theorem dX10_day_84 : decode cX10_day 84 = .ok (.aload_n 0, 1) := by decide +kernel
theorem dX10_day_85 : decode cX10_day 85 = .ok (.dup, 1) := by decide +kernel
theorem dX10_day_86 : decode cX10_day 86 = .ok (.getfield 148, 3) := by decide +kernel
theorem dX10_day_89 : decode cX10_day 89 = .ok (.iconst 1, 1) := by decide +kernel
theorem dX10_day_90 : decode cX10_day 90 = .ok (.iadd, 1) := by decide +kernel
theorem dX10_day_91 : decode cX10_day 91 = .ok (.putfield 148, 3) := by decide +kernel
theorem dX10_day_94 : decode cX10_day 94 = .ok (.aload_n 0, 1) := by decide +kernel
theorem dX10_day_95 : decode cX10_day 95 = .ok (.iload_n 1, 1) := by decide +kernel
theorem dX10_day_96 : decode cX10_day 96 = .ok (.putfield 155, 3) := by decide +kernel
theorem dX10_day_99 : decode cX10_day 99 = .ok (.iconst 0, 1) := by decide +kernel
theorem dX10_day_100 : decode cX10_day 100 = .ok (.istore 5, 2) := by decide +kernel
theorem dX10_day_102 : decode cX10_day 102 = .ok (.iload 5, 2) := by decide +kernel
theorem dX10_day_104 : decode cX10_day 104 = .ok (.aload_n 0, 1) := by decide +kernel
theorem dX10_day_105 : decode cX10_day 105 = .ok (.getfield 130, 3) := by decide +kernel
theorem dX10_day_108 : decode cX10_day 108 = .ok (.if_icmp .ge 17, 3) := by decide +kernel
theorem dX10_day_111 : decode cX10_day 111 = .ok (.aload_n 0, 1) := by decide +kernel
theorem dX10_day_112 : decode cX10_day 112 = .ok (.iload 5, 2) := by decide +kernel
theorem dX10_day_114 : decode cX10_day 114 = .ok (.iload 4, 2) := by decide +kernel
theorem dX10_day_116 : decode cX10_day 116 = .ok (.invokevirtual 158, 3) := by decide +kernel
theorem dX10_day_119 : decode cX10_day 119 = .ok (.iinc 5 1, 3) := by decide +kernel
theorem dX10_day_122 : decode cX10_day 122 = .ok (.goto (-20), 3) := by decide +kernel
theorem dX10_day_125 : decode cX10_day 125 = .ok (.iconst 0, 1) := by decide +kernel
theorem dX10_day_126 : decode cX10_day 126 = .ok (.istore 5, 2) := by decide +kernel
theorem dX10_day_128 : decode cX10_day 128 = .ok (.iload 5, 2) := by decide +kernel
theorem dX10_day_130 : decode cX10_day 130 = .ok (.bipush 8, 2) := by decide +kernel
theorem dX10_day_132 : decode cX10_day 132 = .ok (.if_icmp .ge 25, 3) := by decide +kernel
theorem dX10_day_135 : decode cX10_day 135 = .ok (.aload_n 0, 1) := by decide +kernel
theorem dX10_day_136 : decode cX10_day 136 = .ok (.iload 5, 2) := by decide +kernel
theorem dX10_day_138 : decode cX10_day 138 = .ok (.iload_n 2, 1) := by decide +kernel
theorem dX10_day_139 : decode cX10_day 139 = .ok (.iload_n 3, 1) := by decide +kernel
theorem dX10_day_140 : decode cX10_day 140 = .ok (.invokevirtual 162, 3) := by decide +kernel
theorem dX10_day_143 : decode cX10_day 143 = .ok (.aload_n 0, 1) := by decide +kernel
theorem dX10_day_144 : decode cX10_day 144 = .ok (.getfield 55, 3) := by decide +kernel
theorem dX10_day_147 : decode cX10_day 147 = .ok (.iload 5, 2) := by decide +kernel
theorem dX10_day_149 : decode cX10_day 149 = .ok (.iconst 0, 1) := by decide +kernel
theorem dX10_day_150 : decode cX10_day 150 = .ok (.iastore, 1) := by decide +kernel
theorem dX10_day_151 : decode cX10_day 151 = .ok (.iinc 5 1, 3) := by decide +kernel
theorem dX10_day_154 : decode cX10_day 154 = .ok (.goto (-26), 3) := by decide +kernel
theorem dX10_day_157 : decode cX10_day 157 = .ok (.iconst 0, 1) := by decide +kernel
theorem dX10_day_158 : decode cX10_day 158 = .ok (.istore 5, 2) := by decide +kernel
theorem dX10_day_160 : decode cX10_day 160 = .ok (.iload 5, 2) := by decide +kernel
theorem dX10_day_162 : decode cX10_day 162 = .ok (.aload_n 0, 1) := by decide +kernel
theorem dX10_day_163 : decode cX10_day 163 = .ok (.getfield 166, 3) := by decide +kernel
theorem dX10_day_166 : decode cX10_day 166 = .ok (.if_icmp .ge 16, 3) := by decide +kernel
theorem dX10_day_169 : decode cX10_day 169 = .ok (.aload_n 0, 1) := by decide +kernel
theorem dX10_day_170 : decode cX10_day 170 = .ok (.iload 5, 2) := by decide +kernel
theorem dX10_day_172 : decode cX10_day 172 = .ok (.iload_n 3, 1) := by decide +kernel
theorem dX10_day_173 : decode cX10_day 173 = .ok (.invokevirtual 169, 3) := by decide +kernel
theorem dX10_day_176 : decode cX10_day 176 = .ok (.iinc 5 1, 3) := by decide +kernel
theorem dX10_day_179 : decode cX10_day 179 = .ok (.goto (-19), 3) := by decide +kernel
theorem dX10_day_182 : decode cX10_day 182 = .ok (.aload_n 0, 1) := by decide +kernel
theorem dX10_day_183 : decode cX10_day 183 = .ok (.getfield 148, 3) := by decide +kernel
theorem dX10_day_186 : decode cX10_day 186 = .ok (.ireturn, 1) := by decide +kernel
set_option maxRecDepth 20000 in
theorem ggX10_right_X10_in : GoodIn wsX10_right wsX10_in := goodIn_r _ [6] (by decide +kernel) (by decide +kernel)
set_option maxRecDepth 20000 in
theorem gX10_right_X10_in : GoodIn wsX10_right (va_wsS RX10 133 yX10_in wsX10_in) := goodIn_app (goodIn_of _ (by decide +kernel)) ggX10_right_X10_in
theorem dX10_right_0 : decode cX10_right 0 = .ok (.iconst 0, 1) := by decide +kernel
theorem dX10_right_1 : decode cX10_right 1 = .ok (.istore 4, 2) := by decide +kernel
theorem dX10_right_3 : decode cX10_right 3 = .ok (.iload 4, 2) := by decide +kernel
theorem dX10_right_5 : decode cX10_right 5 = .ok (.aload_n 0, 1) := by decide +kernel
theorem dX10_right_6 : decode cX10_right 6 = .ok (.getfield 172, 3) := by decide +kernel
theorem dX10_right_9 : decode cX10_right 9 = .ok (.if_icmp .ge 69, 3) := by decide +kernel
theorem dX10_right_12 : decode cX10_right 12 = .ok (.aload_n 0, 1) := by decide +kernel
theorem dX10_right_13 : decode cX10_right 13 = .ok (.getfield 76, 3) := by decide +kernel
theorem dX10_right_16 : decode cX10_right 16 = .ok (.iconst 5, 1) := by decide +kernel
theorem dX10_right_17 : decode cX10_right 17 = .ok (.iload 4, 2) := by decide +kernel
theorem dX10_right_19 : decode cX10_right 19 = .ok (.imul, 1) := by decide +kernel
theorem dX10_right_20 : decode cX10_right 20 = .ok (.iaload, 1) := by decide +kernel
theorem dX10_right_21 : decode cX10_right 21 = .ok (.iload_n 1, 1) := by decide +kernel
theorem dX10_right_22 : decode cX10_right 22 = .ok (.if_icmp .ne 50, 3) := by decide +kernel
theorem dX10_right_25 : decode cX10_right 25 = .ok (.aload_n 0, 1) := by decide +kernel
theorem dX10_right_26 : decode cX10_right 26 = .ok (.getfield 76, 3) := by decide +kernel
theorem dX10_right_29 : decode cX10_right 29 = .ok (.iconst 5, 1) := by decide +kernel
theorem dX10_right_30 : decode cX10_right 30 = .ok (.iload 4, 2) := by decide +kernel
theorem dX10_right_32 : decode cX10_right 32 = .ok (.imul, 1) := by decide +kernel
theorem dX10_right_33 : decode cX10_right 33 = .ok (.iconst 1, 1) := by decide +kernel
theorem dX10_right_34 : decode cX10_right 34 = .ok (.iadd, 1) := by decide +kernel
theorem dX10_right_35 : decode cX10_right 35 = .ok (.iaload, 1) := by decide +kernel
theorem dX10_right_36 : decode cX10_right 36 = .ok (.iload_n 2, 1) := by decide +kernel
theorem dX10_right_37 : decode cX10_right 37 = .ok (.if_icmp .ne 35, 3) := by decide +kernel
theorem dX10_right_40 : decode cX10_right 40 = .ok (.iload_n 3, 1) := by decide +kernel
theorem dX10_right_41 : decode cX10_right 41 = .ok (.aload_n 0, 1) := by decide +kernel
theorem dX10_right_42 : decode cX10_right 42 = .ok (.getfield 76, 3) := by decide +kernel
theorem dX10_right_45 : decode cX10_right 45 = .ok (.iconst 5, 1) := by decide +kernel
theorem dX10_right_46 : decode cX10_right 46 = .ok (.iload 4, 2) := by decide +kernel
theorem dX10_right_48 : decode cX10_right 48 = .ok (.imul, 1) := by decide +kernel
theorem dX10_right_49 : decode cX10_right 49 = .ok (.iconst 2, 1) := by decide +kernel
theorem dX10_right_50 : decode cX10_right 50 = .ok (.iadd, 1) := by decide +kernel
theorem dX10_right_51 : decode cX10_right 51 = .ok (.iaload, 1) := by decide +kernel
theorem dX10_right_52 : decode cX10_right 52 = .ok (.aload_n 0, 1) := by decide +kernel
theorem dX10_right_53 : decode cX10_right 53 = .ok (.getfield 76, 3) := by decide +kernel
theorem dX10_right_56 : decode cX10_right 56 = .ok (.iconst 5, 1) := by decide +kernel
theorem dX10_right_57 : decode cX10_right 57 = .ok (.iload 4, 2) := by decide +kernel
theorem dX10_right_59 : decode cX10_right 59 = .ok (.imul, 1) := by decide +kernel
theorem dX10_right_60 : decode cX10_right 60 = .ok (.iconst 3, 1) := by decide +kernel
theorem dX10_right_61 : decode cX10_right 61 = .ok (.iadd, 1) := by decide +kernel
theorem dX10_right_62 : decode cX10_right 62 = .ok (.iaload, 1) := by decide +kernel
theorem dX10_right_63 : decode cX10_right 63 = .ok (.invokestatic 133, 3) := by decide +kernel
theorem dX10_right_66 : decode cX10_right 66 = .ok (.ifCond .eq 6, 3) := by decide +kernel
theorem dX10_right_69 : decode cX10_right 69 = .ok (.iload 4, 2) := by decide +kernel
theorem dX10_right_71 : decode cX10_right 71 = .ok (.ireturn, 1) := by decide +kernel
theorem dX10_right_72 : decode cX10_right 72 = .ok (.iinc 4 1, 3) := by decide +kernel
theorem dX10_right_75 : decode cX10_right 75 = .ok (.goto (-72), 3) := by decide +kernel
theorem dX10_right_78 : decode cX10_right 78 = .ok (.iconst (-1), 1) := by decide +kernel
theorem dX10_right_79 : decode cX10_right 79 = .ok (.ireturn, 1) := by decide +kernel
set_option maxRecDepth 20000 in
theorem ggX10_may_X10_noShore : GoodIn wsX10_may wsX10_noShore := goodIn_r _ [6, 7, 8, 9, 5, 10, 24, 25, 26, 27, 28, 29, 30, 31, 32, 33, 34, 35, 36, 37, 38, 39, 40, 41, 42, 43, 44, 45, 46, 47, 48, 49, 50, 51, 52, 53, 54, 55, 56, 57, 58, 59, 60, 61, 62, 63, 64, 65, 66, 67, 68, 69, 70, 71, 72, 73, 74, 75, 76] (by decide +kernel) (by decide +kernel)
set_option maxRecDepth 20000 in
theorem gX10_may_X10_noShore : GoodIn wsX10_may (wsV RX10 137 RX10 yX10_noShore wsX10_noShore) := goodIn_app (goodIn_of _ (by decide +kernel)) ggX10_may_X10_noShore
set_option maxRecDepth 20000 in
theorem ggX10_may_X10_noFamily : GoodIn wsX10_may wsX10_noFamily := goodIn_r _ [13, 8, 9, 5, 10] (by decide +kernel) (by decide +kernel)
set_option maxRecDepth 20000 in
theorem gX10_may_X10_noFamily : GoodIn wsX10_may (va_wsS RX10 145 yX10_noFamily wsX10_noFamily) := goodIn_app (goodIn_of _ (by decide +kernel)) ggX10_may_X10_noFamily
set_option maxRecDepth 20000 in
theorem ggX10_may_X10_throwsIf : GoodIn wsX10_may wsX10_throwsIf := goodIn_r _ [17, 1, 24, 25, 26, 27, 28, 29, 30, 31, 32, 33, 34, 35, 36, 37, 38, 39, 40, 41, 42, 43, 44, 45, 46, 47, 48, 49, 50, 51, 52, 53, 54, 55, 56, 57, 58, 59, 60, 61, 62, 63, 64, 65, 66, 67, 68, 69, 70, 71, 72, 73, 74, 75, 76] (by decide +kernel) (by decide +kernel)
set_option maxRecDepth 20000 in
theorem gX10_may_X10_throwsIf : GoodIn wsX10_may (wsV RX10 141 RX10 yX10_throwsIf wsX10_throwsIf) := goodIn_app (goodIn_of _ (by decide +kernel)) ggX10_may_X10_throwsIf
set_option maxRecDepth 20000 in
theorem ggX10_may_X10_right : GoodIn wsX10_may wsX10_right := goodIn_r _ [21, 22, 23, 8, 9, 5, 10, 24, 25, 26, 27, 28, 29, 30, 31, 32, 33, 34, 35, 36, 37, 38, 39, 40, 41, 42, 43, 44, 45, 46, 47, 48, 49, 50, 51, 52, 53, 54, 55, 56, 57, 58, 59, 60, 61, 62, 63, 64, 65, 66, 67, 68, 69, 70, 71, 72, 73, 74, 75, 76] (by decide +kernel) (by decide +kernel)
set_option maxRecDepth 20000 in
theorem gX10_may_X10_right : GoodIn wsX10_may (wsV RX10 175 RX10 yX10_right wsX10_right) := goodIn_app (goodIn_of _ (by decide +kernel)) ggX10_may_X10_right
theorem dX10_may_0 : decode cX10_may 0 = .ok (.aload_n 0, 1) := by decide +kernel
theorem dX10_may_1 : decode cX10_may 1 = .ok (.iconst 0, 1) := by decide +kernel
theorem dX10_may_2 : decode cX10_may 2 = .ok (.putfield 127, 3) := by decide +kernel
theorem dX10_may_5 : decode cX10_may 5 = .ok (.aload_n 0, 1) := by decide +kernel
theorem dX10_may_6 : decode cX10_may 6 = .ok (.aload_n 0, 1) := by decide +kernel
theorem dX10_may_7 : decode cX10_may 7 = .ok (.iload_n 1, 1) := by decide +kernel
theorem dX10_may_8 : decode cX10_may 8 = .ok (.invokevirtual 137, 3) := by decide +kernel
theorem dX10_may_11 : decode cX10_may 11 = .ok (.ifCond .ne 10, 3) := by decide +kernel
theorem dX10_may_14 : decode cX10_may 14 = .ok (.iload_n 2, 1) := by decide +kernel
theorem dX10_may_15 : decode cX10_may 15 = .ok (.invokestatic 145, 3) := by decide +kernel
theorem dX10_may_18 : decode cX10_may 18 = .ok (.ifCond .eq 7, 3) := by decide +kernel
theorem dX10_may_21 : decode cX10_may 21 = .ok (.iconst 1, 1) := by decide +kernel
theorem dX10_may_22 : decode cX10_may 22 = .ok (.goto 4, 3) := by decide +kernel
theorem dX10_may_25 : decode cX10_may 25 = .ok (.iconst 0, 1) := by decide +kernel
theorem dX10_may_26 : decode cX10_may 26 = .ok (.iconst 1, 1) := by decide +kernel
theorem dX10_may_27 : decode cX10_may 27 = .ok (.invokevirtual 141, 3) := by decide +kernel
theorem dX10_may_30 : decode cX10_may 30 = .ok (.ifCond .ne 17, 3) := by decide +kernel
theorem dX10_may_33 : decode cX10_may 33 = .ok (.aload_n 0, 1) := by decide +kernel
theorem dX10_may_34 : decode cX10_may 34 = .ok (.iload_n 1, 1) := by decide +kernel
theorem dX10_may_35 : decode cX10_may 35 = .ok (.iload_n 2, 1) := by decide +kernel
theorem dX10_may_36 : decode cX10_may 36 = .ok (.iload_n 3, 1) := by decide +kernel
theorem dX10_may_37 : decode cX10_may 37 = .ok (.invokevirtual 175, 3) := by decide +kernel
theorem dX10_may_40 : decode cX10_may 40 = .ok (.ifCond .lt 7, 3) := by decide +kernel
theorem dX10_may_43 : decode cX10_may 43 = .ok (.iconst 1, 1) := by decide +kernel
theorem dX10_may_44 : decode cX10_may 44 = .ok (.goto 4, 3) := by decide +kernel
theorem dX10_may_47 : decode cX10_may 47 = .ok (.iconst 0, 1) := by decide +kernel
theorem dX10_may_48 : decode cX10_may 48 = .ok (.ireturn, 1) := by decide +kernel
set_option maxRecDepth 20000 in
theorem ggX10_owe_X10_right : GoodIn wsX10_owe wsX10_right := goodIn_r _ [8, 9, 3, 10, 11, 7, 12, 13, 14, 15, 16, 17, 18, 19, 20, 21, 22, 23, 24, 25, 26, 27, 28, 29, 30, 31, 32, 33, 34, 35, 36, 37, 38, 39, 40, 41, 42, 43, 44, 45, 46, 47, 48, 49, 50, 51, 52, 53, 54, 55, 56, 57, 58, 59, 60, 61, 62, 63, 64, 65] (by decide +kernel) (by decide +kernel)
set_option maxRecDepth 20000 in
theorem gX10_owe_X10_right : GoodIn wsX10_owe (wsV RX10 175 RX10 yX10_right wsX10_right) := goodIn_app (goodIn_of _ (by decide +kernel)) ggX10_owe_X10_right
theorem dX10_owe_0 : decode cX10_owe 0 = .ok (.aload_n 0, 1) := by decide +kernel
theorem dX10_owe_1 : decode cX10_owe 1 = .ok (.getfield 64, 3) := by decide +kernel
theorem dX10_owe_4 : decode cX10_owe 4 = .ok (.aload_n 0, 1) := by decide +kernel
theorem dX10_owe_5 : decode cX10_owe 5 = .ok (.getfield 148, 3) := by decide +kernel
theorem dX10_owe_8 : decode cX10_owe 8 = .ok (.bipush 100, 2) := by decide +kernel
theorem dX10_owe_10 : decode cX10_owe 10 = .ok (.idiv, 1) := by decide +kernel
theorem dX10_owe_11 : decode cX10_owe 11 = .ok (.bipush 6, 2) := by decide +kernel
theorem dX10_owe_13 : decode cX10_owe 13 = .ok (.imul, 1) := by decide +kernel
theorem dX10_owe_14 : decode cX10_owe 14 = .ok (.iload_n 1, 1) := by decide +kernel
theorem dX10_owe_15 : decode cX10_owe 15 = .ok (.iadd, 1) := by decide +kernel
theorem dX10_owe_16 : decode cX10_owe 16 = .ok (.bipush 8, 2) := by decide +kernel
theorem dX10_owe_18 : decode cX10_owe 18 = .ok (.imul, 1) := by decide +kernel
theorem dX10_owe_19 : decode cX10_owe 19 = .ok (.iload_n 2, 1) := by decide +kernel
theorem dX10_owe_20 : decode cX10_owe 20 = .ok (.iadd, 1) := by decide +kernel
theorem dX10_owe_21 : decode cX10_owe 21 = .ok (.dup2, 1) := by decide +kernel
theorem dX10_owe_22 : decode cX10_owe 22 = .ok (.iaload, 1) := by decide +kernel
theorem dX10_owe_23 : decode cX10_owe 23 = .ok (.iload_n 3, 1) := by decide +kernel
theorem dX10_owe_24 : decode cX10_owe 24 = .ok (.aload_n 0, 1) := by decide +kernel
theorem dX10_owe_25 : decode cX10_owe 25 = .ok (.getfield 76, 3) := by decide +kernel
theorem dX10_owe_28 : decode cX10_owe 28 = .ok (.iconst 5, 1) := by decide +kernel
theorem dX10_owe_29 : decode cX10_owe 29 = .ok (.aload_n 0, 1) := by decide +kernel
theorem dX10_owe_30 : decode cX10_owe 30 = .ok (.iload_n 1, 1) := by decide +kernel
theorem dX10_owe_31 : decode cX10_owe 31 = .ok (.iload_n 2, 1) := by decide +kernel
theorem dX10_owe_32 : decode cX10_owe 32 = .ok (.aload_n 0, 1) := by decide +kernel
theorem dX10_owe_33 : decode cX10_owe 33 = .ok (.getfield 148, 3) := by decide +kernel
theorem dX10_owe_36 : decode cX10_owe 36 = .ok (.bipush 100, 2) := by decide +kernel
theorem dX10_owe_38 : decode cX10_owe 38 = .ok (.irem, 1) := by decide +kernel
theorem dX10_owe_39 : decode cX10_owe 39 = .ok (.invokevirtual 175, 3) := by decide +kernel
theorem dX10_owe_42 : decode cX10_owe 42 = .ok (.imul, 1) := by decide +kernel
theorem dX10_owe_43 : decode cX10_owe 43 = .ok (.iconst 4, 1) := by decide +kernel
theorem dX10_owe_44 : decode cX10_owe 44 = .ok (.iadd, 1) := by decide +kernel
theorem dX10_owe_45 : decode cX10_owe 45 = .ok (.iaload, 1) := by decide +kernel
theorem dX10_owe_46 : decode cX10_owe 46 = .ok (.imul, 1) := by decide +kernel
theorem dX10_owe_47 : decode cX10_owe 47 = .ok (.bipush 100, 2) := by decide +kernel
theorem dX10_owe_49 : decode cX10_owe 49 = .ok (.idiv, 1) := by decide +kernel
theorem dX10_owe_50 : decode cX10_owe 50 = .ok (.iadd, 1) := by decide +kernel
theorem dX10_owe_51 : decode cX10_owe 51 = .ok (.iastore, 1) := by decide +kernel
theorem dX10_owe_52 : decode cX10_owe 52 = .ok (.return_, 1) := by decide +kernel
theorem dX10_workLeft_0 : decode cX10_workLeft 0 = .ok (.iconst 0, 1) := by decide +kernel
theorem dX10_workLeft_1 : decode cX10_workLeft 1 = .ok (.iconst 5, 1) := by decide +kernel
theorem dX10_workLeft_2 : decode cX10_workLeft 2 = .ok (.aload_n 0, 1) := by decide +kernel
theorem dX10_workLeft_3 : decode cX10_workLeft 3 = .ok (.getfield 43, 3) := by decide +kernel
theorem dX10_workLeft_6 : decode cX10_workLeft 6 = .ok (.iload_n 1, 1) := by decide +kernel
theorem dX10_workLeft_7 : decode cX10_workLeft 7 = .ok (.iaload, 1) := by decide +kernel
theorem dX10_workLeft_8 : decode cX10_workLeft 8 = .ok (.imul, 1) := by decide +kernel
theorem dX10_workLeft_9 : decode cX10_workLeft 9 = .ok (.aload_n 0, 1) := by decide +kernel
theorem dX10_workLeft_10 : decode cX10_workLeft 10 = .ok (.getfield 55, 3) := by decide +kernel
theorem dX10_workLeft_13 : decode cX10_workLeft 13 = .ok (.iload_n 1, 1) := by decide +kernel
theorem dX10_workLeft_14 : decode cX10_workLeft 14 = .ok (.iaload, 1) := by decide +kernel
theorem dX10_workLeft_15 : decode cX10_workLeft 15 = .ok (.isub, 1) := by decide +kernel
theorem dX10_workLeft_16 : decode cX10_workLeft 16 = .ok (.invokestatic 179, 3) := by decide +kernel
theorem dX10_workLeft_19 : decode cX10_workLeft 19 = .ok (.ireturn, 1) := by decide +kernel
set_option maxRecDepth 20000 in
theorem ggX10_cut_X10_noRock : GoodIn wsX10_cut wsX10_noRock := goodIn_r _ [17, 18, 19, 20, 21, 16, 22, 23, 24, 25, 26, 54, 55, 56, 57, 58, 59, 60, 61, 62, 63, 64, 65, 66, 67, 68, 69, 70, 71, 72, 73, 74, 75, 76, 77, 78, 79, 80, 81, 82, 83, 84, 85, 86, 87, 88, 89, 90, 91, 92, 93, 94, 95, 96, 97, 98, 99, 100, 101, 102, 103, 104, 105, 106] (by decide +kernel) (by decide +kernel)
set_option maxRecDepth 20000 in
theorem gX10_cut_X10_noRock : GoodIn wsX10_cut (wsV RX10 185 RX10 yX10_noRock wsX10_noRock) := goodIn_app (goodIn_of _ (by decide +kernel)) ggX10_cut_X10_noRock
set_option maxRecDepth 20000 in
theorem ggX10_cut_X10_noFamily : GoodIn wsX10_cut wsX10_noFamily := goodIn_r _ [29, 24, 25, 16, 26] (by decide +kernel) (by decide +kernel)
set_option maxRecDepth 20000 in
theorem gX10_cut_X10_noFamily : GoodIn wsX10_cut (va_wsS RX10 145 yX10_noFamily wsX10_noFamily) := goodIn_app (goodIn_of _ (by decide +kernel)) ggX10_cut_X10_noFamily
set_option maxRecDepth 20000 in
theorem ggX10_cut_X10_throwsIf : GoodIn wsX10_cut wsX10_throwsIf := goodIn_r _ [33, 1, 54, 55, 56, 57, 58, 59, 60, 61, 62, 63, 64, 65, 66, 67, 68, 69, 70, 71, 72, 73, 74, 75, 76, 77, 78, 79, 80, 81, 82, 83, 84, 85, 86, 87, 88, 89, 90, 91, 92, 93, 94, 95, 96, 97, 98, 99, 100, 101, 102, 103, 104, 105, 106] (by decide +kernel) (by decide +kernel)
set_option maxRecDepth 20000 in
theorem gX10_cut_X10_throwsIf : GoodIn wsX10_cut (wsV RX10 141 RX10 yX10_throwsIf wsX10_throwsIf) := goodIn_app (goodIn_of _ (by decide +kernel)) ggX10_cut_X10_throwsIf
set_option maxRecDepth 20000 in
theorem ggX10_cut_X10_in : GoodIn wsX10_cut wsX10_in := goodIn_r _ [26] (by decide +kernel) (by decide +kernel)
set_option maxRecDepth 20000 in
theorem gX10_cut_X10_in : GoodIn wsX10_cut (va_wsS RX10 133 yX10_in wsX10_in) := goodIn_app (goodIn_of _ (by decide +kernel)) ggX10_cut_X10_in
set_option maxRecDepth 20000 in
theorem ggX10_cut_X10_right : GoodIn wsX10_cut wsX10_right := goodIn_r _ [37, 38, 39, 24, 25, 16, 26, 54, 55, 56, 57, 58, 59, 60, 61, 62, 63, 64, 65, 66, 67, 68, 69, 70, 71, 72, 73, 74, 75, 76, 77, 78, 79, 80, 81, 82, 83, 84, 85, 86, 87, 88, 89, 90, 91, 92, 93, 94, 95, 96, 97, 98, 99, 100, 101, 102, 103, 104, 105, 106] (by decide +kernel) (by decide +kernel)
set_option maxRecDepth 20000 in
theorem gX10_cut_X10_right : GoodIn wsX10_cut (wsV RX10 175 RX10 yX10_right wsX10_right) := goodIn_app (goodIn_of _ (by decide +kernel)) ggX10_cut_X10_right
set_option maxRecDepth 20000 in
theorem ggX10_cut_X10_workLeft : GoodIn wsX10_cut wsX10_workLeft := goodIn_r _ [43, 44, 12, 45, 46, 47, 48, 54, 55, 56, 57, 58, 59, 60, 61, 62, 63, 64, 65, 66, 67, 68, 69, 70, 71, 72, 73, 74, 75, 76, 77, 78, 79, 80, 81, 82, 83, 84, 85, 86, 87, 88, 89, 90, 91, 92, 93, 94, 95, 96, 97, 98, 99, 100, 101, 102, 103, 104, 105, 106] (by decide +kernel) (by decide +kernel)
set_option maxRecDepth 20000 in
theorem gX10_cut_X10_workLeft : GoodIn wsX10_cut (wsV RX10 189 RX10 yX10_workLeft wsX10_workLeft) := goodIn_app (goodIn_of _ (by decide +kernel)) ggX10_cut_X10_workLeft
set_option maxRecDepth 20000 in
theorem ggX10_cut_X10_owe : GoodIn wsX10_cut wsX10_owe := goodIn_r _ [52, 53, 3, 39, 34, 35, 36, 16, 37, 38, 24, 25, 26, 54, 55, 56, 57, 58, 59, 60, 61, 62, 63, 64, 65, 66, 67, 68, 69, 70, 71, 72, 73, 74, 75, 76, 77, 78, 79, 80, 81, 82, 83, 84, 85, 86, 87, 88, 89, 90, 91, 92, 93, 94, 95, 96, 97, 98, 99, 100, 101, 102, 103, 104, 105, 106] (by decide +kernel) (by decide +kernel)
set_option maxRecDepth 20000 in
theorem gX10_cut_X10_owe : GoodIn wsX10_cut (wsV RX10 193 RX10 yX10_owe wsX10_owe) := goodIn_app (goodIn_of _ (by decide +kernel)) ggX10_cut_X10_owe
theorem dX10_cut_0 : decode cX10_cut 0 = .ok (.aload_n 0, 1) := by decide +kernel
theorem dX10_cut_1 : decode cX10_cut 1 = .ok (.iconst 0, 1) := by decide +kernel
theorem dX10_cut_2 : decode cX10_cut 2 = .ok (.putfield 127, 3) := by decide +kernel
theorem dX10_cut_5 : decode cX10_cut 5 = .ok (.aload_n 0, 1) := by decide +kernel
theorem dX10_cut_6 : decode cX10_cut 6 = .ok (.aload_n 0, 1) := by decide +kernel
theorem dX10_cut_7 : decode cX10_cut 7 = .ok (.iload_n 1, 1) := by decide +kernel
theorem dX10_cut_8 : decode cX10_cut 8 = .ok (.iload_n 2, 1) := by decide +kernel
theorem dX10_cut_9 : decode cX10_cut 9 = .ok (.invokevirtual 185, 3) := by decide +kernel
theorem dX10_cut_12 : decode cX10_cut 12 = .ok (.ifCond .ne 10, 3) := by decide +kernel
theorem dX10_cut_15 : decode cX10_cut 15 = .ok (.iload_n 3, 1) := by decide +kernel
theorem dX10_cut_16 : decode cX10_cut 16 = .ok (.invokestatic 145, 3) := by decide +kernel
theorem dX10_cut_19 : decode cX10_cut 19 = .ok (.ifCond .eq 7, 3) := by decide +kernel
theorem dX10_cut_22 : decode cX10_cut 22 = .ok (.iconst 1, 1) := by decide +kernel
theorem dX10_cut_23 : decode cX10_cut 23 = .ok (.goto 4, 3) := by decide +kernel
theorem dX10_cut_26 : decode cX10_cut 26 = .ok (.iconst 0, 1) := by decide +kernel
theorem dX10_cut_27 : decode cX10_cut 27 = .ok (.iconst 1, 1) := by decide +kernel
theorem dX10_cut_28 : decode cX10_cut 28 = .ok (.invokevirtual 141, 3) := by decide +kernel
theorem dX10_cut_31 : decode cX10_cut 31 = .ok (.ifCond .ne 28, 3) := by decide +kernel
theorem dX10_cut_34 : decode cX10_cut 34 = .ok (.aload_n 0, 1) := by decide +kernel
theorem dX10_cut_35 : decode cX10_cut 35 = .ok (.iload 4, 2) := by decide +kernel
theorem dX10_cut_37 : decode cX10_cut 37 = .ok (.iconst 1, 1) := by decide +kernel
theorem dX10_cut_38 : decode cX10_cut 38 = .ok (.sipush 1000, 3) := by decide +kernel
theorem dX10_cut_41 : decode cX10_cut 41 = .ok (.invokestatic 133, 3) := by decide +kernel
theorem dX10_cut_44 : decode cX10_cut 44 = .ok (.ifCond .ne 7, 3) := by decide +kernel
theorem dX10_cut_47 : decode cX10_cut 47 = .ok (.iconst 1, 1) := by decide +kernel
theorem dX10_cut_48 : decode cX10_cut 48 = .ok (.goto 4, 3) := by decide +kernel
theorem dX10_cut_51 : decode cX10_cut 51 = .ok (.iconst 0, 1) := by decide +kernel
theorem dX10_cut_52 : decode cX10_cut 52 = .ok (.iconst 2, 1) := by decide +kernel
theorem dX10_cut_53 : decode cX10_cut 53 = .ok (.invokevirtual 141, 3) := by decide +kernel
theorem dX10_cut_56 : decode cX10_cut 56 = .ok (.ifCond .eq 5, 3) := by decide +kernel
theorem dX10_cut_59 : decode cX10_cut 59 = .ok (.iconst 0, 1) := by decide +kernel
theorem dX10_cut_60 : decode cX10_cut 60 = .ok (.ireturn, 1) := by decide +kernel
theorem dX10_cut_61 : decode cX10_cut 61 = .ok (.iconst 4, 1) := by decide +kernel
theorem dX10_cut_62 : decode cX10_cut 62 = .ok (.iload_n 1, 1) := by decide +kernel
theorem dX10_cut_63 : decode cX10_cut 63 = .ok (.imul, 1) := by decide +kernel
theorem dX10_cut_64 : decode cX10_cut 64 = .ok (.iload_n 2, 1) := by decide +kernel
theorem dX10_cut_65 : decode cX10_cut 65 = .ok (.iadd, 1) := by decide +kernel
theorem dX10_cut_66 : decode cX10_cut 66 = .ok (.istore 5, 2) := by decide +kernel
theorem dX10_cut_68 : decode cX10_cut 68 = .ok (.aload_n 0, 1) := by decide +kernel
theorem dX10_cut_69 : decode cX10_cut 69 = .ok (.getfield 34, 3) := by decide +kernel
theorem dX10_cut_72 : decode cX10_cut 72 = .ok (.iload 5, 2) := by decide +kernel
theorem dX10_cut_74 : decode cX10_cut 74 = .ok (.iaload, 1) := by decide +kernel
theorem dX10_cut_75 : decode cX10_cut 75 = .ok (.aload_n 0, 1) := by decide +kernel
theorem dX10_cut_76 : decode cX10_cut 76 = .ok (.getfield 148, 3) := by decide +kernel
theorem dX10_cut_79 : decode cX10_cut 79 = .ok (.if_icmp .ne 18, 3) := by decide +kernel
theorem dX10_cut_82 : decode cX10_cut 82 = .ok (.aload_n 0, 1) := by decide +kernel
theorem dX10_cut_83 : decode cX10_cut 83 = .ok (.getfield 31, 3) := by decide +kernel
theorem dX10_cut_86 : decode cX10_cut 86 = .ok (.iload 5, 2) := by decide +kernel
theorem dX10_cut_88 : decode cX10_cut 88 = .ok (.iaload, 1) := by decide +kernel
theorem dX10_cut_89 : decode cX10_cut 89 = .ok (.iload_n 3, 1) := by decide +kernel
theorem dX10_cut_90 : decode cX10_cut 90 = .ok (.if_icmp .ne 7, 3) := by decide +kernel
theorem dX10_cut_93 : decode cX10_cut 93 = .ok (.iconst 1, 1) := by decide +kernel
theorem dX10_cut_94 : decode cX10_cut 94 = .ok (.goto 4, 3) := by decide +kernel
theorem dX10_cut_97 : decode cX10_cut 97 = .ok (.iconst 0, 1) := by decide +kernel
theorem dX10_cut_98 : decode cX10_cut 98 = .ok (.istore 6, 2) := by decide +kernel
theorem dX10_cut_100 : decode cX10_cut 100 = .ok (.aload_n 0, 1) := by decide +kernel
theorem dX10_cut_101 : decode cX10_cut 101 = .ok (.iload_n 1, 1) := by decide +kernel
theorem dX10_cut_102 : decode cX10_cut 102 = .ok (.iload_n 3, 1) := by decide +kernel
theorem dX10_cut_103 : decode cX10_cut 103 = .ok (.aload_n 0, 1) := by decide +kernel
theorem dX10_cut_104 : decode cX10_cut 104 = .ok (.getfield 148, 3) := by decide +kernel
theorem dX10_cut_107 : decode cX10_cut 107 = .ok (.bipush 100, 2) := by decide +kernel
theorem dX10_cut_109 : decode cX10_cut 109 = .ok (.irem, 1) := by decide +kernel
theorem dX10_cut_110 : decode cX10_cut 110 = .ok (.invokevirtual 175, 3) := by decide +kernel
theorem dX10_cut_113 : decode cX10_cut 113 = .ok (.ifCond .ge 5, 3) := by decide +kernel
theorem dX10_cut_116 : decode cX10_cut 116 = .ok (.iconst 1, 1) := by decide +kernel
theorem dX10_cut_117 : decode cX10_cut 117 = .ok (.ireturn, 1) := by decide +kernel
theorem dX10_cut_118 : decode cX10_cut 118 = .ok (.aload_n 0, 1) := by decide +kernel
theorem dX10_cut_119 : decode cX10_cut 119 = .ok (.getfield 155, 3) := by decide +kernel
theorem dX10_cut_122 : decode cX10_cut 122 = .ok (.aload_n 0, 1) := by decide +kernel
theorem dX10_cut_123 : decode cX10_cut 123 = .ok (.getfield 9, 3) := by decide +kernel
theorem dX10_cut_126 : decode cX10_cut 126 = .ok (.iload 5, 2) := by decide +kernel
theorem dX10_cut_128 : decode cX10_cut 128 = .ok (.iaload, 1) := by decide +kernel
theorem dX10_cut_129 : decode cX10_cut 129 = .ok (.if_icmp .le 5, 3) := by decide +kernel
theorem dX10_cut_132 : decode cX10_cut 132 = .ok (.iconst 2, 1) := by decide +kernel
theorem dX10_cut_133 : decode cX10_cut 133 = .ok (.ireturn, 1) := by decide +kernel
theorem dX10_cut_134 : decode cX10_cut 134 = .ok (.iload 6, 2) := by decide +kernel
theorem dX10_cut_136 : decode cX10_cut 136 = .ok (.ifCond .ne 37, 3) := by decide +kernel
theorem dX10_cut_139 : decode cX10_cut 139 = .ok (.aload_n 0, 1) := by decide +kernel
theorem dX10_cut_140 : decode cX10_cut 140 = .ok (.getfield 19, 3) := by decide +kernel
theorem dX10_cut_143 : decode cX10_cut 143 = .ok (.iload 5, 2) := by decide +kernel
theorem dX10_cut_145 : decode cX10_cut 145 = .ok (.iaload, 1) := by decide +kernel
theorem dX10_cut_146 : decode cX10_cut 146 = .ok (.ifCond .lt 27, 3) := by decide +kernel
theorem dX10_cut_149 : decode cX10_cut 149 = .ok (.aload_n 0, 1) := by decide +kernel
theorem dX10_cut_150 : decode cX10_cut 150 = .ok (.getfield 148, 3) := by decide +kernel
theorem dX10_cut_153 : decode cX10_cut 153 = .ok (.bipush 100, 2) := by decide +kernel
theorem dX10_cut_155 : decode cX10_cut 155 = .ok (.idiv, 1) := by decide +kernel
theorem dX10_cut_156 : decode cX10_cut 156 = .ok (.aload_n 0, 1) := by decide +kernel
theorem dX10_cut_157 : decode cX10_cut 157 = .ok (.getfield 19, 3) := by decide +kernel
theorem dX10_cut_160 : decode cX10_cut 160 = .ok (.iload 5, 2) := by decide +kernel
theorem dX10_cut_162 : decode cX10_cut 162 = .ok (.iaload, 1) := by decide +kernel
theorem dX10_cut_163 : decode cX10_cut 163 = .ok (.isub, 1) := by decide +kernel
theorem dX10_cut_164 : decode cX10_cut 164 = .ok (.aload_n 0, 1) := by decide +kernel
theorem dX10_cut_165 : decode cX10_cut 165 = .ok (.getfield 82, 3) := by decide +kernel
theorem dX10_cut_168 : decode cX10_cut 168 = .ok (.if_icmp .gt 5, 3) := by decide +kernel
theorem dX10_cut_171 : decode cX10_cut 171 = .ok (.iconst 3, 1) := by decide +kernel
theorem dX10_cut_172 : decode cX10_cut 172 = .ok (.ireturn, 1) := by decide +kernel
theorem dX10_cut_173 : decode cX10_cut 173 = .ok (.aload_n 0, 1) := by decide +kernel
theorem dX10_cut_174 : decode cX10_cut 174 = .ok (.getfield 16, 3) := by decide +kernel
theorem dX10_cut_177 : decode cX10_cut 177 = .ok (.iload 5, 2) := by decide +kernel
theorem dX10_cut_179 : decode cX10_cut 179 = .ok (.iaload, 1) := by decide +kernel
theorem dX10_cut_180 : decode cX10_cut 180 = .ok (.iload 4, 2) := by decide +kernel
theorem dX10_cut_182 : decode cX10_cut 182 = .ok (.if_icmp .ge 5, 3) := by decide +kernel
theorem dX10_cut_185 : decode cX10_cut 185 = .ok (.iconst 4, 1) := by decide +kernel
theorem dX10_cut_186 : decode cX10_cut 186 = .ok (.ireturn, 1) := by decide +kernel
theorem dX10_cut_187 : decode cX10_cut 187 = .ok (.aload_n 0, 1) := by decide +kernel
theorem dX10_cut_188 : decode cX10_cut 188 = .ok (.iload_n 3, 1) := by decide +kernel
theorem dX10_cut_189 : decode cX10_cut 189 = .ok (.invokevirtual 189, 3) := by decide +kernel
theorem dX10_cut_192 : decode cX10_cut 192 = .ok (.iload 4, 2) := by decide +kernel
theorem dX10_cut_194 : decode cX10_cut 194 = .ok (.if_icmp .ge 5, 3) := by decide +kernel
theorem dX10_cut_197 : decode cX10_cut 197 = .ok (.iconst 5, 1) := by decide +kernel
theorem dX10_cut_198 : decode cX10_cut 198 = .ok (.ireturn, 1) := by decide +kernel
theorem dX10_cut_199 : decode cX10_cut 199 = .ok (.aload_n 0, 1) := by decide +kernel
theorem dX10_cut_200 : decode cX10_cut 200 = .ok (.getfield 16, 3) := by decide +kernel
theorem dX10_cut_203 : decode cX10_cut 203 = .ok (.iload 5, 2) := by decide +kernel
theorem dX10_cut_205 : decode cX10_cut 205 = .ok (.dup2, 1) := by decide +kernel
theorem dX10_cut_206 : decode cX10_cut 206 = .ok (.iaload, 1) := by decide +kernel
theorem dX10_cut_207 : decode cX10_cut 207 = .ok (.iload 4, 2) := by decide +kernel
theorem dX10_cut_209 : decode cX10_cut 209 = .ok (.isub, 1) := by decide +kernel
theorem dX10_cut_210 : decode cX10_cut 210 = .ok (.iastore, 1) := by decide +kernel
theorem dX10_cut_211 : decode cX10_cut 211 = .ok (.aload_n 0, 1) := by decide +kernel
theorem dX10_cut_212 : decode cX10_cut 212 = .ok (.getfield 25, 3) := by decide +kernel
theorem dX10_cut_215 : decode cX10_cut 215 = .ok (.iload 5, 2) := by decide +kernel
theorem dX10_cut_217 : decode cX10_cut 217 = .ok (.dup2, 1) := by decide +kernel
theorem dX10_cut_218 : decode cX10_cut 218 = .ok (.iaload, 1) := by decide +kernel
theorem dX10_cut_219 : decode cX10_cut 219 = .ok (.iload 4, 2) := by decide +kernel
theorem dX10_cut_221 : decode cX10_cut 221 = .ok (.iadd, 1) := by decide +kernel
theorem dX10_cut_222 : decode cX10_cut 222 = .ok (.iastore, 1) := by decide +kernel
theorem dX10_cut_223 : decode cX10_cut 223 = .ok (.aload_n 0, 1) := by decide +kernel
theorem dX10_cut_224 : decode cX10_cut 224 = .ok (.getfield 46, 3) := by decide +kernel
theorem dX10_cut_227 : decode cX10_cut 227 = .ok (.iload_n 3, 1) := by decide +kernel
theorem dX10_cut_228 : decode cX10_cut 228 = .ok (.dup2, 1) := by decide +kernel
theorem dX10_cut_229 : decode cX10_cut 229 = .ok (.iaload, 1) := by decide +kernel
theorem dX10_cut_230 : decode cX10_cut 230 = .ok (.iload 4, 2) := by decide +kernel
theorem dX10_cut_232 : decode cX10_cut 232 = .ok (.iadd, 1) := by decide +kernel
theorem dX10_cut_233 : decode cX10_cut 233 = .ok (.iastore, 1) := by decide +kernel
theorem dX10_cut_234 : decode cX10_cut 234 = .ok (.aload_n 0, 1) := by decide +kernel
theorem dX10_cut_235 : decode cX10_cut 235 = .ok (.getfield 55, 3) := by decide +kernel
theorem dX10_cut_238 : decode cX10_cut 238 = .ok (.iload_n 3, 1) := by decide +kernel
theorem dX10_cut_239 : decode cX10_cut 239 = .ok (.dup2, 1) := by decide +kernel
theorem dX10_cut_240 : decode cX10_cut 240 = .ok (.iaload, 1) := by decide +kernel
theorem dX10_cut_241 : decode cX10_cut 241 = .ok (.iload 4, 2) := by decide +kernel
theorem dX10_cut_243 : decode cX10_cut 243 = .ok (.iadd, 1) := by decide +kernel
theorem dX10_cut_244 : decode cX10_cut 244 = .ok (.iastore, 1) := by decide +kernel
theorem dX10_cut_245 : decode cX10_cut 245 = .ok (.aload_n 0, 1) := by decide +kernel
theorem dX10_cut_246 : decode cX10_cut 246 = .ok (.getfield 19, 3) := by decide +kernel
theorem dX10_cut_249 : decode cX10_cut 249 = .ok (.iload 5, 2) := by decide +kernel
theorem dX10_cut_251 : decode cX10_cut 251 = .ok (.aload_n 0, 1) := by decide +kernel
theorem dX10_cut_252 : decode cX10_cut 252 = .ok (.getfield 148, 3) := by decide +kernel
theorem dX10_cut_255 : decode cX10_cut 255 = .ok (.bipush 100, 2) := by decide +kernel
theorem dX10_cut_257 : decode cX10_cut 257 = .ok (.idiv, 1) := by decide +kernel
theorem dX10_cut_258 : decode cX10_cut 258 = .ok (.iastore, 1) := by decide +kernel
theorem dX10_cut_259 : decode cX10_cut 259 = .ok (.aload_n 0, 1) := by decide +kernel
theorem dX10_cut_260 : decode cX10_cut 260 = .ok (.getfield 34, 3) := by decide +kernel
theorem dX10_cut_263 : decode cX10_cut 263 = .ok (.iload 5, 2) := by decide +kernel
theorem dX10_cut_265 : decode cX10_cut 265 = .ok (.aload_n 0, 1) := by decide +kernel
theorem dX10_cut_266 : decode cX10_cut 266 = .ok (.getfield 148, 3) := by decide +kernel
theorem dX10_cut_269 : decode cX10_cut 269 = .ok (.iastore, 1) := by decide +kernel
theorem dX10_cut_270 : decode cX10_cut 270 = .ok (.aload_n 0, 1) := by decide +kernel
theorem dX10_cut_271 : decode cX10_cut 271 = .ok (.getfield 31, 3) := by decide +kernel
theorem dX10_cut_274 : decode cX10_cut 274 = .ok (.iload 5, 2) := by decide +kernel
theorem dX10_cut_276 : decode cX10_cut 276 = .ok (.iload_n 3, 1) := by decide +kernel
theorem dX10_cut_277 : decode cX10_cut 277 = .ok (.iastore, 1) := by decide +kernel
theorem dX10_cut_278 : decode cX10_cut 278 = .ok (.aload_n 0, 1) := by decide +kernel
theorem dX10_cut_279 : decode cX10_cut 279 = .ok (.iload_n 1, 1) := by decide +kernel
theorem dX10_cut_280 : decode cX10_cut 280 = .ok (.iload_n 3, 1) := by decide +kernel
theorem dX10_cut_281 : decode cX10_cut 281 = .ok (.iload 4, 2) := by decide +kernel
theorem dX10_cut_283 : decode cX10_cut 283 = .ok (.invokevirtual 193, 3) := by decide +kernel
theorem dX10_cut_286 : decode cX10_cut 286 = .ok (.iconst 0, 1) := by decide +kernel
theorem dX10_cut_287 : decode cX10_cut 287 = .ok (.ireturn, 1) := by decide +kernel
set_option maxRecDepth 20000 in
theorem ggX10_gather_X10_noShore : GoodIn wsX10_gather wsX10_noShore := goodIn_r _ [10, 11, 12, 13, 9, 14, 42, 43, 44, 45, 46, 47, 48, 49, 50, 51, 52, 53, 54, 55, 56, 57, 58, 59, 60, 61, 62, 63, 64, 65, 66, 67, 68, 69, 70, 71, 72, 73, 74, 75, 76, 77, 78, 79, 80, 81, 82, 83, 84, 85, 86, 87, 88, 89, 90, 91, 92, 93, 94] (by decide +kernel) (by decide +kernel)
set_option maxRecDepth 20000 in
theorem gX10_gather_X10_noShore : GoodIn wsX10_gather (wsV RX10 137 RX10 yX10_noShore wsX10_noShore) := goodIn_app (goodIn_of _ (by decide +kernel)) ggX10_gather_X10_noShore
set_option maxRecDepth 20000 in
theorem ggX10_gather_X10_noFamily : GoodIn wsX10_gather wsX10_noFamily := goodIn_r _ [17, 12, 13, 9, 14] (by decide +kernel) (by decide +kernel)
set_option maxRecDepth 20000 in
theorem gX10_gather_X10_noFamily : GoodIn wsX10_gather (va_wsS RX10 145 yX10_noFamily wsX10_noFamily) := goodIn_app (goodIn_of _ (by decide +kernel)) ggX10_gather_X10_noFamily
set_option maxRecDepth 20000 in
theorem ggX10_gather_X10_throwsIf : GoodIn wsX10_gather wsX10_throwsIf := goodIn_r _ [21, 1, 42, 43, 44, 45, 46, 47, 48, 49, 50, 51, 52, 53, 54, 55, 56, 57, 58, 59, 60, 61, 62, 63, 64, 65, 66, 67, 68, 69, 70, 71, 72, 73, 74, 75, 76, 77, 78, 79, 80, 81, 82, 83, 84, 85, 86, 87, 88, 89, 90, 91, 92, 93, 94] (by decide +kernel) (by decide +kernel)
set_option maxRecDepth 20000 in
theorem gX10_gather_X10_throwsIf : GoodIn wsX10_gather (wsV RX10 141 RX10 yX10_throwsIf wsX10_throwsIf) := goodIn_app (goodIn_of _ (by decide +kernel)) ggX10_gather_X10_throwsIf
set_option maxRecDepth 20000 in
theorem ggX10_gather_X10_in : GoodIn wsX10_gather wsX10_in := goodIn_r _ [14] (by decide +kernel) (by decide +kernel)
set_option maxRecDepth 20000 in
theorem gX10_gather_X10_in : GoodIn wsX10_gather (va_wsS RX10 133 yX10_in wsX10_in) := goodIn_app (goodIn_of _ (by decide +kernel)) ggX10_gather_X10_in
set_option maxRecDepth 20000 in
theorem ggX10_gather_X10_right : GoodIn wsX10_gather wsX10_right := goodIn_r _ [25, 26, 27, 12, 13, 9, 14, 42, 43, 44, 45, 46, 47, 48, 49, 50, 51, 52, 53, 54, 55, 56, 57, 58, 59, 60, 61, 62, 63, 64, 65, 66, 67, 68, 69, 70, 71, 72, 73, 74, 75, 76, 77, 78, 79, 80, 81, 82, 83, 84, 85, 86, 87, 88, 89, 90, 91, 92, 93, 94] (by decide +kernel) (by decide +kernel)
set_option maxRecDepth 20000 in
theorem gX10_gather_X10_right : GoodIn wsX10_gather (wsV RX10 175 RX10 yX10_right wsX10_right) := goodIn_app (goodIn_of _ (by decide +kernel)) ggX10_gather_X10_right
set_option maxRecDepth 20000 in
theorem ggX10_gather_X10_workLeft : GoodIn wsX10_gather wsX10_workLeft := goodIn_r _ [31, 32, 5, 33, 34, 35, 36, 42, 43, 44, 45, 46, 47, 48, 49, 50, 51, 52, 53, 54, 55, 56, 57, 58, 59, 60, 61, 62, 63, 64, 65, 66, 67, 68, 69, 70, 71, 72, 73, 74, 75, 76, 77, 78, 79, 80, 81, 82, 83, 84, 85, 86, 87, 88, 89, 90, 91, 92, 93, 94] (by decide +kernel) (by decide +kernel)
set_option maxRecDepth 20000 in
theorem gX10_gather_X10_workLeft : GoodIn wsX10_gather (wsV RX10 189 RX10 yX10_workLeft wsX10_workLeft) := goodIn_app (goodIn_of _ (by decide +kernel)) ggX10_gather_X10_workLeft
set_option maxRecDepth 20000 in
theorem ggX10_gather_X10_owe : GoodIn wsX10_gather wsX10_owe := goodIn_r _ [40, 41, 2, 27, 22, 23, 24, 9, 25, 26, 12, 13, 14, 42, 43, 44, 45, 46, 47, 48, 49, 50, 51, 52, 53, 54, 55, 56, 57, 58, 59, 60, 61, 62, 63, 64, 65, 66, 67, 68, 69, 70, 71, 72, 73, 74, 75, 76, 77, 78, 79, 80, 81, 82, 83, 84, 85, 86, 87, 88, 89, 90, 91, 92, 93, 94] (by decide +kernel) (by decide +kernel)
set_option maxRecDepth 20000 in
theorem gX10_gather_X10_owe : GoodIn wsX10_gather (wsV RX10 193 RX10 yX10_owe wsX10_owe) := goodIn_app (goodIn_of _ (by decide +kernel)) ggX10_gather_X10_owe
theorem dX10_gather_0 : decode cX10_gather 0 = .ok (.aload_n 0, 1) := by decide +kernel
theorem dX10_gather_1 : decode cX10_gather 1 = .ok (.iconst 0, 1) := by decide +kernel
theorem dX10_gather_2 : decode cX10_gather 2 = .ok (.putfield 127, 3) := by decide +kernel
theorem dX10_gather_5 : decode cX10_gather 5 = .ok (.aload_n 0, 1) := by decide +kernel
theorem dX10_gather_6 : decode cX10_gather 6 = .ok (.aload_n 0, 1) := by decide +kernel
theorem dX10_gather_7 : decode cX10_gather 7 = .ok (.iload_n 1, 1) := by decide +kernel
theorem dX10_gather_8 : decode cX10_gather 8 = .ok (.invokevirtual 137, 3) := by decide +kernel
theorem dX10_gather_11 : decode cX10_gather 11 = .ok (.ifCond .ne 10, 3) := by decide +kernel
theorem dX10_gather_14 : decode cX10_gather 14 = .ok (.iload_n 2, 1) := by decide +kernel
theorem dX10_gather_15 : decode cX10_gather 15 = .ok (.invokestatic 145, 3) := by decide +kernel
theorem dX10_gather_18 : decode cX10_gather 18 = .ok (.ifCond .eq 7, 3) := by decide +kernel
theorem dX10_gather_21 : decode cX10_gather 21 = .ok (.iconst 1, 1) := by decide +kernel
theorem dX10_gather_22 : decode cX10_gather 22 = .ok (.goto 4, 3) := by decide +kernel
theorem dX10_gather_25 : decode cX10_gather 25 = .ok (.iconst 0, 1) := by decide +kernel
theorem dX10_gather_26 : decode cX10_gather 26 = .ok (.iconst 1, 1) := by decide +kernel
theorem dX10_gather_27 : decode cX10_gather 27 = .ok (.invokevirtual 141, 3) := by decide +kernel
theorem dX10_gather_30 : decode cX10_gather 30 = .ok (.ifCond .ne 27, 3) := by decide +kernel
theorem dX10_gather_33 : decode cX10_gather 33 = .ok (.aload_n 0, 1) := by decide +kernel
theorem dX10_gather_34 : decode cX10_gather 34 = .ok (.iload_n 3, 1) := by decide +kernel
theorem dX10_gather_35 : decode cX10_gather 35 = .ok (.iconst 1, 1) := by decide +kernel
theorem dX10_gather_36 : decode cX10_gather 36 = .ok (.sipush 1000, 3) := by decide +kernel
theorem dX10_gather_39 : decode cX10_gather 39 = .ok (.invokestatic 133, 3) := by decide +kernel
theorem dX10_gather_42 : decode cX10_gather 42 = .ok (.ifCond .ne 7, 3) := by decide +kernel
theorem dX10_gather_45 : decode cX10_gather 45 = .ok (.iconst 1, 1) := by decide +kernel
theorem dX10_gather_46 : decode cX10_gather 46 = .ok (.goto 4, 3) := by decide +kernel
theorem dX10_gather_49 : decode cX10_gather 49 = .ok (.iconst 0, 1) := by decide +kernel
theorem dX10_gather_50 : decode cX10_gather 50 = .ok (.iconst 2, 1) := by decide +kernel
theorem dX10_gather_51 : decode cX10_gather 51 = .ok (.invokevirtual 141, 3) := by decide +kernel
theorem dX10_gather_54 : decode cX10_gather 54 = .ok (.ifCond .eq 5, 3) := by decide +kernel
theorem dX10_gather_57 : decode cX10_gather 57 = .ok (.iconst 0, 1) := by decide +kernel
theorem dX10_gather_58 : decode cX10_gather 58 = .ok (.ireturn, 1) := by decide +kernel
theorem dX10_gather_59 : decode cX10_gather 59 = .ok (.aload_n 0, 1) := by decide +kernel
theorem dX10_gather_60 : decode cX10_gather 60 = .ok (.iload_n 1, 1) := by decide +kernel
theorem dX10_gather_61 : decode cX10_gather 61 = .ok (.iload_n 2, 1) := by decide +kernel
theorem dX10_gather_62 : decode cX10_gather 62 = .ok (.aload_n 0, 1) := by decide +kernel
theorem dX10_gather_63 : decode cX10_gather 63 = .ok (.getfield 148, 3) := by decide +kernel
theorem dX10_gather_66 : decode cX10_gather 66 = .ok (.bipush 100, 2) := by decide +kernel
theorem dX10_gather_68 : decode cX10_gather 68 = .ok (.irem, 1) := by decide +kernel
theorem dX10_gather_69 : decode cX10_gather 69 = .ok (.invokevirtual 175, 3) := by decide +kernel
theorem dX10_gather_72 : decode cX10_gather 72 = .ok (.ifCond .ge 5, 3) := by decide +kernel
theorem dX10_gather_75 : decode cX10_gather 75 = .ok (.iconst 1, 1) := by decide +kernel
theorem dX10_gather_76 : decode cX10_gather 76 = .ok (.ireturn, 1) := by decide +kernel
theorem dX10_gather_77 : decode cX10_gather 77 = .ok (.aload_n 0, 1) := by decide +kernel
theorem dX10_gather_78 : decode cX10_gather 78 = .ok (.getfield 40, 3) := by decide +kernel
theorem dX10_gather_81 : decode cX10_gather 81 = .ok (.iload_n 1, 1) := by decide +kernel
theorem dX10_gather_82 : decode cX10_gather 82 = .ok (.iaload, 1) := by decide +kernel
theorem dX10_gather_83 : decode cX10_gather 83 = .ok (.iload_n 3, 1) := by decide +kernel
theorem dX10_gather_84 : decode cX10_gather 84 = .ok (.if_icmp .ge 5, 3) := by decide +kernel
theorem dX10_gather_87 : decode cX10_gather 87 = .ok (.iconst 4, 1) := by decide +kernel
theorem dX10_gather_88 : decode cX10_gather 88 = .ok (.ireturn, 1) := by decide +kernel
theorem dX10_gather_89 : decode cX10_gather 89 = .ok (.aload_n 0, 1) := by decide +kernel
theorem dX10_gather_90 : decode cX10_gather 90 = .ok (.iload_n 2, 1) := by decide +kernel
theorem dX10_gather_91 : decode cX10_gather 91 = .ok (.invokevirtual 189, 3) := by decide +kernel
theorem dX10_gather_94 : decode cX10_gather 94 = .ok (.iload_n 3, 1) := by decide +kernel
theorem dX10_gather_95 : decode cX10_gather 95 = .ok (.if_icmp .ge 5, 3) := by decide +kernel
theorem dX10_gather_98 : decode cX10_gather 98 = .ok (.iconst 5, 1) := by decide +kernel
theorem dX10_gather_99 : decode cX10_gather 99 = .ok (.ireturn, 1) := by decide +kernel
theorem dX10_gather_100 : decode cX10_gather 100 = .ok (.aload_n 0, 1) := by decide +kernel
theorem dX10_gather_101 : decode cX10_gather 101 = .ok (.getfield 40, 3) := by decide +kernel
theorem dX10_gather_104 : decode cX10_gather 104 = .ok (.iload_n 1, 1) := by decide +kernel
theorem dX10_gather_105 : decode cX10_gather 105 = .ok (.dup2, 1) := by decide +kernel
theorem dX10_gather_106 : decode cX10_gather 106 = .ok (.iaload, 1) := by decide +kernel
theorem dX10_gather_107 : decode cX10_gather 107 = .ok (.iload_n 3, 1) := by decide +kernel
theorem dX10_gather_108 : decode cX10_gather 108 = .ok (.isub, 1) := by decide +kernel
theorem dX10_gather_109 : decode cX10_gather 109 = .ok (.iastore, 1) := by decide +kernel
theorem dX10_gather_110 : decode cX10_gather 110 = .ok (.aload_n 0, 1) := by decide +kernel
theorem dX10_gather_111 : decode cX10_gather 111 = .ok (.getfield 46, 3) := by decide +kernel
theorem dX10_gather_114 : decode cX10_gather 114 = .ok (.iload_n 2, 1) := by decide +kernel
theorem dX10_gather_115 : decode cX10_gather 115 = .ok (.dup2, 1) := by decide +kernel
theorem dX10_gather_116 : decode cX10_gather 116 = .ok (.iaload, 1) := by decide +kernel
theorem dX10_gather_117 : decode cX10_gather 117 = .ok (.iload_n 3, 1) := by decide +kernel
theorem dX10_gather_118 : decode cX10_gather 118 = .ok (.iadd, 1) := by decide +kernel
theorem dX10_gather_119 : decode cX10_gather 119 = .ok (.iastore, 1) := by decide +kernel
theorem dX10_gather_120 : decode cX10_gather 120 = .ok (.aload_n 0, 1) := by decide +kernel
theorem dX10_gather_121 : decode cX10_gather 121 = .ok (.getfield 55, 3) := by decide +kernel
theorem dX10_gather_124 : decode cX10_gather 124 = .ok (.iload_n 2, 1) := by decide +kernel
theorem dX10_gather_125 : decode cX10_gather 125 = .ok (.dup2, 1) := by decide +kernel
theorem dX10_gather_126 : decode cX10_gather 126 = .ok (.iaload, 1) := by decide +kernel
theorem dX10_gather_127 : decode cX10_gather 127 = .ok (.iload_n 3, 1) := by decide +kernel
theorem dX10_gather_128 : decode cX10_gather 128 = .ok (.iadd, 1) := by decide +kernel
theorem dX10_gather_129 : decode cX10_gather 129 = .ok (.iastore, 1) := by decide +kernel
theorem dX10_gather_130 : decode cX10_gather 130 = .ok (.aload_n 0, 1) := by decide +kernel
theorem dX10_gather_131 : decode cX10_gather 131 = .ok (.iload_n 1, 1) := by decide +kernel
theorem dX10_gather_132 : decode cX10_gather 132 = .ok (.iload_n 2, 1) := by decide +kernel
theorem dX10_gather_133 : decode cX10_gather 133 = .ok (.iload_n 3, 1) := by decide +kernel
theorem dX10_gather_134 : decode cX10_gather 134 = .ok (.invokevirtual 193, 3) := by decide +kernel
theorem dX10_gather_137 : decode cX10_gather 137 = .ok (.iconst 0, 1) := by decide +kernel
theorem dX10_gather_138 : decode cX10_gather 138 = .ok (.ireturn, 1) := by decide +kernel
set_option maxRecDepth 20000 in
theorem ggX10_look_X10_noRock : GoodIn wsX10_look wsX10_noRock := goodIn_r _ [11, 12, 13, 14, 15, 10, 16, 17, 18, 19, 20, 25, 26, 27, 28, 29, 30, 31, 32, 33, 34, 35, 36, 37, 38, 39, 40, 41, 42, 43, 44, 45, 46, 47, 48, 49, 50, 51, 52, 53, 54, 55, 56, 57, 58, 59, 60, 61, 62, 63, 64, 65, 66, 67, 68, 69, 70, 71, 72, 73, 74, 75, 76, 77] (by decide +kernel) (by decide +kernel)
set_option maxRecDepth 20000 in
theorem gX10_look_X10_noRock : GoodIn wsX10_look (wsV RX10 185 RX10 yX10_noRock wsX10_noRock) := goodIn_app (goodIn_of _ (by decide +kernel)) ggX10_look_X10_noRock
set_option maxRecDepth 20000 in
theorem ggX10_look_X10_throwsIf : GoodIn wsX10_look wsX10_throwsIf := goodIn_r _ [24, 1, 25, 26, 27, 28, 29, 30, 31, 32, 33, 34, 35, 36, 37, 38, 39, 40, 41, 42, 43, 44, 45, 46, 47, 48, 49, 50, 51, 52, 53, 54, 55, 56, 57, 58, 59, 60, 61, 62, 63, 64, 65, 66, 67, 68, 69, 70, 71, 72, 73, 74, 75, 76, 77] (by decide +kernel) (by decide +kernel)
set_option maxRecDepth 20000 in
theorem gX10_look_X10_throwsIf : GoodIn wsX10_look (wsV RX10 141 RX10 yX10_throwsIf wsX10_throwsIf) := goodIn_app (goodIn_of _ (by decide +kernel)) ggX10_look_X10_throwsIf
theorem dX10_look_0 : decode cX10_look 0 = .ok (.aload_n 0, 1) := by decide +kernel
theorem dX10_look_1 : decode cX10_look 1 = .ok (.iconst 0, 1) := by decide +kernel
theorem dX10_look_2 : decode cX10_look 2 = .ok (.putfield 127, 3) := by decide +kernel
theorem dX10_look_5 : decode cX10_look 5 = .ok (.aload_n 0, 1) := by decide +kernel
theorem dX10_look_6 : decode cX10_look 6 = .ok (.aload_n 0, 1) := by decide +kernel
theorem dX10_look_7 : decode cX10_look 7 = .ok (.iload_n 1, 1) := by decide +kernel
theorem dX10_look_8 : decode cX10_look 8 = .ok (.iload_n 2, 1) := by decide +kernel
theorem dX10_look_9 : decode cX10_look 9 = .ok (.invokevirtual 185, 3) := by decide +kernel
theorem dX10_look_12 : decode cX10_look 12 = .ok (.iconst 1, 1) := by decide +kernel
theorem dX10_look_13 : decode cX10_look 13 = .ok (.invokevirtual 141, 3) := by decide +kernel
theorem dX10_look_16 : decode cX10_look 16 = .ok (.ifCond .eq 5, 3) := by decide +kernel
theorem dX10_look_19 : decode cX10_look 19 = .ok (.iconst 0, 1) := by decide +kernel
theorem dX10_look_20 : decode cX10_look 20 = .ok (.ireturn, 1) := by decide +kernel
theorem dX10_look_21 : decode cX10_look 21 = .ok (.iconst 4, 1) := by decide +kernel
theorem dX10_look_22 : decode cX10_look 22 = .ok (.iload_n 1, 1) := by decide +kernel
theorem dX10_look_23 : decode cX10_look 23 = .ok (.imul, 1) := by decide +kernel
theorem dX10_look_24 : decode cX10_look 24 = .ok (.iload_n 2, 1) := by decide +kernel
theorem dX10_look_25 : decode cX10_look 25 = .ok (.iadd, 1) := by decide +kernel
theorem dX10_look_26 : decode cX10_look 26 = .ok (.istore 4, 2) := by decide +kernel
theorem dX10_look_28 : decode cX10_look 28 = .ok (.iload_n 3, 1) := by decide +kernel
theorem dX10_look_29 : decode cX10_look 29 = .ok (.tableswitch 75 0 4 #[35, 43, 51, 59, 67], 35) := by decide +kernel
theorem dX10_look_64 : decode cX10_look 64 = .ok (.aload_n 0, 1) := by decide +kernel
theorem dX10_look_65 : decode cX10_look 65 = .ok (.getfield 16, 3) := by decide +kernel
theorem dX10_look_68 : decode cX10_look 68 = .ok (.iload 4, 2) := by decide +kernel
theorem dX10_look_70 : decode cX10_look 70 = .ok (.iaload, 1) := by decide +kernel
theorem dX10_look_71 : decode cX10_look 71 = .ok (.ireturn, 1) := by decide +kernel
theorem dX10_look_72 : decode cX10_look 72 = .ok (.aload_n 0, 1) := by decide +kernel
theorem dX10_look_73 : decode cX10_look 73 = .ok (.getfield 19, 3) := by decide +kernel
theorem dX10_look_76 : decode cX10_look 76 = .ok (.iload 4, 2) := by decide +kernel
theorem dX10_look_78 : decode cX10_look 78 = .ok (.iaload, 1) := by decide +kernel
theorem dX10_look_79 : decode cX10_look 79 = .ok (.ireturn, 1) := by decide +kernel
theorem dX10_look_80 : decode cX10_look 80 = .ok (.aload_n 0, 1) := by decide +kernel
theorem dX10_look_81 : decode cX10_look 81 = .ok (.getfield 22, 3) := by decide +kernel
theorem dX10_look_84 : decode cX10_look 84 = .ok (.iload 4, 2) := by decide +kernel
theorem dX10_look_86 : decode cX10_look 86 = .ok (.iaload, 1) := by decide +kernel
theorem dX10_look_87 : decode cX10_look 87 = .ok (.ireturn, 1) := by decide +kernel
theorem dX10_look_88 : decode cX10_look 88 = .ok (.aload_n 0, 1) := by decide +kernel
theorem dX10_look_89 : decode cX10_look 89 = .ok (.getfield 25, 3) := by decide +kernel
theorem dX10_look_92 : decode cX10_look 92 = .ok (.iload 4, 2) := by decide +kernel
theorem dX10_look_94 : decode cX10_look 94 = .ok (.iaload, 1) := by decide +kernel
theorem dX10_look_95 : decode cX10_look 95 = .ok (.ireturn, 1) := by decide +kernel
theorem dX10_look_96 : decode cX10_look 96 = .ok (.aload_n 0, 1) := by decide +kernel
theorem dX10_look_97 : decode cX10_look 97 = .ok (.getfield 28, 3) := by decide +kernel
theorem dX10_look_100 : decode cX10_look 100 = .ok (.iload 4, 2) := by decide +kernel
theorem dX10_look_102 : decode cX10_look 102 = .ok (.iaload, 1) := by decide +kernel
theorem dX10_look_103 : decode cX10_look 103 = .ok (.ireturn, 1) := by decide +kernel
theorem dX10_look_104 : decode cX10_look 104 = .ok (.aload_n 0, 1) := by decide +kernel
theorem dX10_look_105 : decode cX10_look 105 = .ok (.iconst 2, 1) := by decide +kernel
theorem dX10_look_106 : decode cX10_look 106 = .ok (.putfield 127, 3) := by decide +kernel
theorem dX10_look_109 : decode cX10_look 109 = .ok (.iconst 0, 1) := by decide +kernel
theorem dX10_look_110 : decode cX10_look 110 = .ok (.ireturn, 1) := by decide +kernel
set_option maxRecDepth 20000 in
theorem ggX10_cast_X10_noShore : GoodIn wsX10_cast wsX10_noShore := goodIn_r _ [7, 8, 9, 10, 6, 11, 16, 17, 18, 19, 20, 21, 22, 23, 24, 25, 26, 27, 28, 29, 30, 31, 32, 33, 34, 35, 36, 37, 38, 39, 40, 41, 42, 43, 44, 45, 46, 47, 48, 49, 50, 51, 52, 53, 54, 55, 56, 57, 58, 59, 60, 61, 62, 63, 64, 65, 66, 67, 68] (by decide +kernel) (by decide +kernel)
set_option maxRecDepth 20000 in
theorem gX10_cast_X10_noShore : GoodIn wsX10_cast (wsV RX10 137 RX10 yX10_noShore wsX10_noShore) := goodIn_app (goodIn_of _ (by decide +kernel)) ggX10_cast_X10_noShore
set_option maxRecDepth 20000 in
theorem ggX10_cast_X10_throwsIf : GoodIn wsX10_cast wsX10_throwsIf := goodIn_r _ [15, 1, 16, 17, 18, 19, 20, 21, 22, 23, 24, 25, 26, 27, 28, 29, 30, 31, 32, 33, 34, 35, 36, 37, 38, 39, 40, 41, 42, 43, 44, 45, 46, 47, 48, 49, 50, 51, 52, 53, 54, 55, 56, 57, 58, 59, 60, 61, 62, 63, 64, 65, 66, 67, 68] (by decide +kernel) (by decide +kernel)
set_option maxRecDepth 20000 in
theorem gX10_cast_X10_throwsIf : GoodIn wsX10_cast (wsV RX10 141 RX10 yX10_throwsIf wsX10_throwsIf) := goodIn_app (goodIn_of _ (by decide +kernel)) ggX10_cast_X10_throwsIf
theorem dX10_cast_0 : decode cX10_cast 0 = .ok (.aload_n 0, 1) := by decide +kernel
theorem dX10_cast_1 : decode cX10_cast 1 = .ok (.iconst 0, 1) := by decide +kernel
theorem dX10_cast_2 : decode cX10_cast 2 = .ok (.putfield 127, 3) := by decide +kernel
theorem dX10_cast_5 : decode cX10_cast 5 = .ok (.aload_n 0, 1) := by decide +kernel
theorem dX10_cast_6 : decode cX10_cast 6 = .ok (.aload_n 0, 1) := by decide +kernel
theorem dX10_cast_7 : decode cX10_cast 7 = .ok (.iload_n 1, 1) := by decide +kernel
theorem dX10_cast_8 : decode cX10_cast 8 = .ok (.invokevirtual 137, 3) := by decide +kernel
theorem dX10_cast_11 : decode cX10_cast 11 = .ok (.iconst 1, 1) := by decide +kernel
theorem dX10_cast_12 : decode cX10_cast 12 = .ok (.invokevirtual 141, 3) := by decide +kernel
theorem dX10_cast_15 : decode cX10_cast 15 = .ok (.ifCond .eq 7, 3) := by decide +kernel
theorem dX10_cast_18 : decode cX10_cast 18 = .ok (.iconst 0, 1) := by decide +kernel
theorem dX10_cast_19 : decode cX10_cast 19 = .ok (.goto 9, 3) := by decide +kernel
theorem dX10_cast_22 : decode cX10_cast 22 = .ok (.aload_n 0, 1) := by decide +kernel
theorem dX10_cast_23 : decode cX10_cast 23 = .ok (.getfield 40, 3) := by decide +kernel
theorem dX10_cast_26 : decode cX10_cast 26 = .ok (.iload_n 1, 1) := by decide +kernel
theorem dX10_cast_27 : decode cX10_cast 27 = .ok (.iaload, 1) := by decide +kernel
theorem dX10_cast_28 : decode cX10_cast 28 = .ok (.ireturn, 1) := by decide +kernel
set_option maxRecDepth 20000 in
theorem ggX10_has_X10_noFamily : GoodIn wsX10_has wsX10_noFamily := goodIn_r _ [11, 12, 13, 10, 14] (by decide +kernel) (by decide +kernel)
set_option maxRecDepth 20000 in
theorem gX10_has_X10_noFamily : GoodIn wsX10_has (va_wsS RX10 145 yX10_noFamily wsX10_noFamily) := goodIn_app (goodIn_of _ (by decide +kernel)) ggX10_has_X10_noFamily
set_option maxRecDepth 20000 in
theorem ggX10_has_X10_throwsIf : GoodIn wsX10_has wsX10_throwsIf := goodIn_r _ [18, 1, 28, 29, 30, 31, 32, 33, 34, 35, 36, 37, 38, 39, 40, 41, 42, 43, 44, 45, 46, 47, 48, 49, 50, 51, 52, 53, 54, 55, 56, 57, 58, 59, 60, 61, 62, 63, 64, 65, 66, 67, 68, 69, 70, 71, 72, 73, 74, 75, 76, 77, 78, 79, 80] (by decide +kernel) (by decide +kernel)
set_option maxRecDepth 20000 in
theorem gX10_has_X10_throwsIf : GoodIn wsX10_has (wsV RX10 141 RX10 yX10_throwsIf wsX10_throwsIf) := goodIn_app (goodIn_of _ (by decide +kernel)) ggX10_has_X10_throwsIf
set_option maxRecDepth 20000 in
theorem ggX10_has_X10_workLeft : GoodIn wsX10_has wsX10_workLeft := goodIn_r _ [22, 7, 23, 24, 25, 26, 27, 28, 29, 30, 31, 32, 33, 34, 35, 36, 37, 38, 39, 40, 41, 42, 43, 44, 45, 46, 47, 48, 49, 50, 51, 52, 53, 54, 55, 56, 57, 58, 59, 60, 61, 62, 63, 64, 65, 66, 67, 68, 69, 70, 71, 72, 73, 74, 75, 76, 77, 78, 79, 80] (by decide +kernel) (by decide +kernel)
set_option maxRecDepth 20000 in
theorem gX10_has_X10_workLeft : GoodIn wsX10_has (wsV RX10 189 RX10 yX10_workLeft wsX10_workLeft) := goodIn_app (goodIn_of _ (by decide +kernel)) ggX10_has_X10_workLeft
theorem dX10_has_0 : decode cX10_has 0 = .ok (.aload_n 0, 1) := by decide +kernel
theorem dX10_has_1 : decode cX10_has 1 = .ok (.iconst 0, 1) := by decide +kernel
theorem dX10_has_2 : decode cX10_has 2 = .ok (.putfield 127, 3) := by decide +kernel
theorem dX10_has_5 : decode cX10_has 5 = .ok (.aload_n 0, 1) := by decide +kernel
theorem dX10_has_6 : decode cX10_has 6 = .ok (.iload_n 1, 1) := by decide +kernel
theorem dX10_has_7 : decode cX10_has 7 = .ok (.invokestatic 145, 3) := by decide +kernel
theorem dX10_has_10 : decode cX10_has 10 = .ok (.iconst 1, 1) := by decide +kernel
theorem dX10_has_11 : decode cX10_has 11 = .ok (.invokevirtual 141, 3) := by decide +kernel
theorem dX10_has_14 : decode cX10_has 14 = .ok (.ifCond .eq 5, 3) := by decide +kernel
theorem dX10_has_17 : decode cX10_has 17 = .ok (.iconst 0, 1) := by decide +kernel
theorem dX10_has_18 : decode cX10_has 18 = .ok (.ireturn, 1) := by decide +kernel
theorem dX10_has_19 : decode cX10_has 19 = .ok (.iload_n 2, 1) := by decide +kernel
theorem dX10_has_20 : decode cX10_has 20 = .ok (.tableswitch 92 0 6 #[44, 51, 58, 65, 71, 78, 85], 44) := by decide +kernel
theorem dX10_has_64 : decode cX10_has 64 = .ok (.aload_n 0, 1) := by decide +kernel
theorem dX10_has_65 : decode cX10_has 65 = .ok (.getfield 46, 3) := by decide +kernel
theorem dX10_has_68 : decode cX10_has 68 = .ok (.iload_n 1, 1) := by decide +kernel
theorem dX10_has_69 : decode cX10_has 69 = .ok (.iaload, 1) := by decide +kernel
theorem dX10_has_70 : decode cX10_has 70 = .ok (.ireturn, 1) := by decide +kernel
theorem dX10_has_71 : decode cX10_has 71 = .ok (.aload_n 0, 1) := by decide +kernel
theorem dX10_has_72 : decode cX10_has 72 = .ok (.getfield 49, 3) := by decide +kernel
theorem dX10_has_75 : decode cX10_has 75 = .ok (.iload_n 1, 1) := by decide +kernel
theorem dX10_has_76 : decode cX10_has 76 = .ok (.iaload, 1) := by decide +kernel
theorem dX10_has_77 : decode cX10_has 77 = .ok (.ireturn, 1) := by decide +kernel
theorem dX10_has_78 : decode cX10_has 78 = .ok (.aload_n 0, 1) := by decide +kernel
theorem dX10_has_79 : decode cX10_has 79 = .ok (.getfield 52, 3) := by decide +kernel
theorem dX10_has_82 : decode cX10_has 82 = .ok (.iload_n 1, 1) := by decide +kernel
theorem dX10_has_83 : decode cX10_has 83 = .ok (.iaload, 1) := by decide +kernel
theorem dX10_has_84 : decode cX10_has 84 = .ok (.ireturn, 1) := by decide +kernel
theorem dX10_has_85 : decode cX10_has 85 = .ok (.aload_n 0, 1) := by decide +kernel
theorem dX10_has_86 : decode cX10_has 86 = .ok (.iload_n 1, 1) := by decide +kernel
theorem dX10_has_87 : decode cX10_has 87 = .ok (.invokevirtual 189, 3) := by decide +kernel
theorem dX10_has_90 : decode cX10_has 90 = .ok (.ireturn, 1) := by decide +kernel
theorem dX10_has_91 : decode cX10_has 91 = .ok (.aload_n 0, 1) := by decide +kernel
theorem dX10_has_92 : decode cX10_has 92 = .ok (.getfield 58, 3) := by decide +kernel
theorem dX10_has_95 : decode cX10_has 95 = .ok (.iload_n 1, 1) := by decide +kernel
theorem dX10_has_96 : decode cX10_has 96 = .ok (.iaload, 1) := by decide +kernel
theorem dX10_has_97 : decode cX10_has 97 = .ok (.ireturn, 1) := by decide +kernel
theorem dX10_has_98 : decode cX10_has 98 = .ok (.aload_n 0, 1) := by decide +kernel
theorem dX10_has_99 : decode cX10_has 99 = .ok (.getfield 61, 3) := by decide +kernel
theorem dX10_has_102 : decode cX10_has 102 = .ok (.iload_n 1, 1) := by decide +kernel
theorem dX10_has_103 : decode cX10_has 103 = .ok (.iaload, 1) := by decide +kernel
theorem dX10_has_104 : decode cX10_has 104 = .ok (.ireturn, 1) := by decide +kernel
theorem dX10_has_105 : decode cX10_has 105 = .ok (.aload_n 0, 1) := by decide +kernel
theorem dX10_has_106 : decode cX10_has 106 = .ok (.getfield 43, 3) := by decide +kernel
theorem dX10_has_109 : decode cX10_has 109 = .ok (.iload_n 1, 1) := by decide +kernel
theorem dX10_has_110 : decode cX10_has 110 = .ok (.iaload, 1) := by decide +kernel
theorem dX10_has_111 : decode cX10_has 111 = .ok (.ireturn, 1) := by decide +kernel
theorem dX10_has_112 : decode cX10_has 112 = .ok (.aload_n 0, 1) := by decide +kernel
theorem dX10_has_113 : decode cX10_has 113 = .ok (.iconst 2, 1) := by decide +kernel
theorem dX10_has_114 : decode cX10_has 114 = .ok (.putfield 127, 3) := by decide +kernel
theorem dX10_has_117 : decode cX10_has 117 = .ok (.iconst 0, 1) := by decide +kernel
theorem dX10_has_118 : decode cX10_has 118 = .ok (.ireturn, 1) := by decide +kernel
set_option maxRecDepth 20000 in
theorem ggX10_owes_X10_noFamily : GoodIn wsX10_owes wsX10_noFamily := goodIn_r _ [6, 7, 8, 5, 9] (by decide +kernel) (by decide +kernel)
set_option maxRecDepth 20000 in
theorem gX10_owes_X10_noFamily : GoodIn wsX10_owes (va_wsS RX10 145 yX10_noFamily wsX10_noFamily) := goodIn_app (goodIn_of _ (by decide +kernel)) ggX10_owes_X10_noFamily
set_option maxRecDepth 20000 in
theorem ggX10_owes_X10_noShore : GoodIn wsX10_owes wsX10_noShore := goodIn_r _ [13, 14, 7, 8, 5, 9, 19, 20, 21, 22, 23, 24, 25, 26, 27, 28, 29, 30, 31, 32, 33, 34, 35, 36, 37, 38, 39, 40, 41, 42, 43, 44, 45, 46, 47, 48, 49, 50, 51, 52, 53, 54, 55, 56, 57, 58, 59, 60, 61, 62, 63, 64, 65, 66, 67, 68, 69, 70, 71] (by decide +kernel) (by decide +kernel)
set_option maxRecDepth 20000 in
theorem gX10_owes_X10_noShore : GoodIn wsX10_owes (wsV RX10 137 RX10 yX10_noShore wsX10_noShore) := goodIn_app (goodIn_of _ (by decide +kernel)) ggX10_owes_X10_noShore
set_option maxRecDepth 20000 in
theorem ggX10_owes_X10_throwsIf : GoodIn wsX10_owes wsX10_throwsIf := goodIn_r _ [18, 1, 19, 20, 21, 22, 23, 24, 25, 26, 27, 28, 29, 30, 31, 32, 33, 34, 35, 36, 37, 38, 39, 40, 41, 42, 43, 44, 45, 46, 47, 48, 49, 50, 51, 52, 53, 54, 55, 56, 57, 58, 59, 60, 61, 62, 63, 64, 65, 66, 67, 68, 69, 70, 71] (by decide +kernel) (by decide +kernel)
set_option maxRecDepth 20000 in
theorem gX10_owes_X10_throwsIf : GoodIn wsX10_owes (wsV RX10 141 RX10 yX10_throwsIf wsX10_throwsIf) := goodIn_app (goodIn_of _ (by decide +kernel)) ggX10_owes_X10_throwsIf
set_option maxRecDepth 20000 in
theorem ggX10_owes_X10_in : GoodIn wsX10_owes wsX10_in := goodIn_r _ [9] (by decide +kernel) (by decide +kernel)
set_option maxRecDepth 20000 in
theorem gX10_owes_X10_in : GoodIn wsX10_owes (va_wsS RX10 133 yX10_in wsX10_in) := goodIn_app (goodIn_of _ (by decide +kernel)) ggX10_owes_X10_in
theorem dX10_owes_0 : decode cX10_owes 0 = .ok (.aload_n 0, 1) := by decide +kernel
theorem dX10_owes_1 : decode cX10_owes 1 = .ok (.iconst 0, 1) := by decide +kernel
theorem dX10_owes_2 : decode cX10_owes 2 = .ok (.putfield 127, 3) := by decide +kernel
theorem dX10_owes_5 : decode cX10_owes 5 = .ok (.aload_n 0, 1) := by decide +kernel
theorem dX10_owes_6 : decode cX10_owes 6 = .ok (.iload_n 1, 1) := by decide +kernel
theorem dX10_owes_7 : decode cX10_owes 7 = .ok (.invokestatic 145, 3) := by decide +kernel
theorem dX10_owes_10 : decode cX10_owes 10 = .ok (.ifCond .ne 11, 3) := by decide +kernel
theorem dX10_owes_13 : decode cX10_owes 13 = .ok (.aload_n 0, 1) := by decide +kernel
theorem dX10_owes_14 : decode cX10_owes 14 = .ok (.iload_n 2, 1) := by decide +kernel
theorem dX10_owes_15 : decode cX10_owes 15 = .ok (.invokevirtual 137, 3) := by decide +kernel
theorem dX10_owes_18 : decode cX10_owes 18 = .ok (.ifCond .eq 7, 3) := by decide +kernel
theorem dX10_owes_21 : decode cX10_owes 21 = .ok (.iconst 1, 1) := by decide +kernel
theorem dX10_owes_22 : decode cX10_owes 22 = .ok (.goto 4, 3) := by decide +kernel
theorem dX10_owes_25 : decode cX10_owes 25 = .ok (.iconst 0, 1) := by decide +kernel
theorem dX10_owes_26 : decode cX10_owes 26 = .ok (.iconst 1, 1) := by decide +kernel
theorem dX10_owes_27 : decode cX10_owes 27 = .ok (.invokevirtual 141, 3) := by decide +kernel
theorem dX10_owes_30 : decode cX10_owes 30 = .ok (.ifCond .eq 5, 3) := by decide +kernel
theorem dX10_owes_33 : decode cX10_owes 33 = .ok (.iconst 0, 1) := by decide +kernel
theorem dX10_owes_34 : decode cX10_owes 34 = .ok (.ireturn, 1) := by decide +kernel
theorem dX10_owes_35 : decode cX10_owes 35 = .ok (.iload_n 3, 1) := by decide +kernel
theorem dX10_owes_36 : decode cX10_owes 36 = .ok (.iconst 0, 1) := by decide +kernel
theorem dX10_owes_37 : decode cX10_owes 37 = .ok (.bipush 99, 2) := by decide +kernel
theorem dX10_owes_39 : decode cX10_owes 39 = .ok (.invokestatic 133, 3) := by decide +kernel
theorem dX10_owes_42 : decode cX10_owes 42 = .ok (.ifCond .eq 22, 3) := by decide +kernel
theorem dX10_owes_45 : decode cX10_owes 45 = .ok (.aload_n 0, 1) := by decide +kernel
theorem dX10_owes_46 : decode cX10_owes 46 = .ok (.getfield 64, 3) := by decide +kernel
theorem dX10_owes_49 : decode cX10_owes 49 = .ok (.iload_n 3, 1) := by decide +kernel
theorem dX10_owes_50 : decode cX10_owes 50 = .ok (.bipush 6, 2) := by decide +kernel
theorem dX10_owes_52 : decode cX10_owes 52 = .ok (.imul, 1) := by decide +kernel
theorem dX10_owes_53 : decode cX10_owes 53 = .ok (.iload_n 2, 1) := by decide +kernel
theorem dX10_owes_54 : decode cX10_owes 54 = .ok (.iadd, 1) := by decide +kernel
theorem dX10_owes_55 : decode cX10_owes 55 = .ok (.bipush 8, 2) := by decide +kernel
theorem dX10_owes_57 : decode cX10_owes 57 = .ok (.imul, 1) := by decide +kernel
theorem dX10_owes_58 : decode cX10_owes 58 = .ok (.iload_n 1, 1) := by decide +kernel
theorem dX10_owes_59 : decode cX10_owes 59 = .ok (.iadd, 1) := by decide +kernel
theorem dX10_owes_60 : decode cX10_owes 60 = .ok (.iaload, 1) := by decide +kernel
theorem dX10_owes_61 : decode cX10_owes 61 = .ok (.goto 4, 3) := by decide +kernel
theorem dX10_owes_64 : decode cX10_owes 64 = .ok (.iconst 0, 1) := by decide +kernel
theorem dX10_owes_65 : decode cX10_owes 65 = .ok (.ireturn, 1) := by decide +kernel
set_option maxRecDepth 20000 in
theorem ggX10_noPit_X10_in : GoodIn wsX10_noPit wsX10_in := goodIn_r _ [5] (by decide +kernel) (by decide +kernel)
set_option maxRecDepth 20000 in
theorem gX10_noPit_X10_in : GoodIn wsX10_noPit (va_wsS RX10 133 yX10_in wsX10_in) := goodIn_app (goodIn_of _ (by decide +kernel)) ggX10_noPit_X10_in
theorem dX10_noPit_0 : decode cX10_noPit 0 = .ok (.iload_n 1, 1) := by decide +kernel
theorem dX10_noPit_1 : decode cX10_noPit 1 = .ok (.iconst 0, 1) := by decide +kernel
theorem dX10_noPit_2 : decode cX10_noPit 2 = .ok (.aload_n 0, 1) := by decide +kernel
theorem dX10_noPit_3 : decode cX10_noPit 3 = .ok (.getfield 166, 3) := by decide +kernel
theorem dX10_noPit_6 : decode cX10_noPit 6 = .ok (.iconst 1, 1) := by decide +kernel
theorem dX10_noPit_7 : decode cX10_noPit 7 = .ok (.isub, 1) := by decide +kernel
theorem dX10_noPit_8 : decode cX10_noPit 8 = .ok (.invokestatic 133, 3) := by decide +kernel
theorem dX10_noPit_11 : decode cX10_noPit 11 = .ok (.ifCond .ne 7, 3) := by decide +kernel
theorem dX10_noPit_14 : decode cX10_noPit 14 = .ok (.iconst 1, 1) := by decide +kernel
theorem dX10_noPit_15 : decode cX10_noPit 15 = .ok (.goto 4, 3) := by decide +kernel
theorem dX10_noPit_18 : decode cX10_noPit 18 = .ok (.iconst 0, 1) := by decide +kernel
theorem dX10_noPit_19 : decode cX10_noPit 19 = .ok (.ireturn, 1) := by decide +kernel
set_option maxRecDepth 20000 in
theorem ggX10_pit_X10_noFamily : GoodIn wsX10_pit wsX10_noFamily := goodIn_r _ [7, 8, 9, 6, 10] (by decide +kernel) (by decide +kernel)
set_option maxRecDepth 20000 in
theorem gX10_pit_X10_noFamily : GoodIn wsX10_pit (va_wsS RX10 145 yX10_noFamily wsX10_noFamily) := goodIn_app (goodIn_of _ (by decide +kernel)) ggX10_pit_X10_noFamily
set_option maxRecDepth 20000 in
theorem ggX10_pit_X10_throwsIf : GoodIn wsX10_pit wsX10_throwsIf := goodIn_r _ [14, 1, 15, 16, 17, 18, 19, 20, 21, 22, 23, 24, 25, 26, 27, 28, 29, 30, 31, 32, 33, 34, 35, 36, 37, 38, 39, 40, 41, 42, 43, 44, 45, 46, 47, 48, 49, 50, 51, 52, 53, 54, 55, 56, 57, 58, 59, 60, 61, 62, 63, 64, 65, 66, 67] (by decide +kernel) (by decide +kernel)
set_option maxRecDepth 20000 in
theorem gX10_pit_X10_throwsIf : GoodIn wsX10_pit (wsV RX10 141 RX10 yX10_throwsIf wsX10_throwsIf) := goodIn_app (goodIn_of _ (by decide +kernel)) ggX10_pit_X10_throwsIf
theorem dX10_pit_0 : decode cX10_pit 0 = .ok (.aload_n 0, 1) := by decide +kernel
theorem dX10_pit_1 : decode cX10_pit 1 = .ok (.iconst 0, 1) := by decide +kernel
theorem dX10_pit_2 : decode cX10_pit 2 = .ok (.putfield 127, 3) := by decide +kernel
theorem dX10_pit_5 : decode cX10_pit 5 = .ok (.aload_n 0, 1) := by decide +kernel
theorem dX10_pit_6 : decode cX10_pit 6 = .ok (.iload_n 1, 1) := by decide +kernel
theorem dX10_pit_7 : decode cX10_pit 7 = .ok (.invokestatic 145, 3) := by decide +kernel
theorem dX10_pit_10 : decode cX10_pit 10 = .ok (.iconst 1, 1) := by decide +kernel
theorem dX10_pit_11 : decode cX10_pit 11 = .ok (.invokevirtual 141, 3) := by decide +kernel
theorem dX10_pit_14 : decode cX10_pit 14 = .ok (.ifCond .ne 25, 3) := by decide +kernel
theorem dX10_pit_17 : decode cX10_pit 17 = .ok (.aload_n 0, 1) := by decide +kernel
theorem dX10_pit_18 : decode cX10_pit 18 = .ok (.aload_n 0, 1) := by decide +kernel
theorem dX10_pit_19 : decode cX10_pit 19 = .ok (.getfield 166, 3) := by decide +kernel
theorem dX10_pit_22 : decode cX10_pit 22 = .ok (.bipush 12, 2) := by decide +kernel
theorem dX10_pit_24 : decode cX10_pit 24 = .ok (.if_icmp .ne 7, 3) := by decide +kernel
theorem dX10_pit_27 : decode cX10_pit 27 = .ok (.iconst 1, 1) := by decide +kernel
theorem dX10_pit_28 : decode cX10_pit 28 = .ok (.goto 4, 3) := by decide +kernel
theorem dX10_pit_31 : decode cX10_pit 31 = .ok (.iconst 0, 1) := by decide +kernel
theorem dX10_pit_32 : decode cX10_pit 32 = .ok (.iconst 2, 1) := by decide +kernel
theorem dX10_pit_33 : decode cX10_pit 33 = .ok (.invokevirtual 141, 3) := by decide +kernel
theorem dX10_pit_36 : decode cX10_pit 36 = .ok (.ifCond .eq 5, 3) := by decide +kernel
theorem dX10_pit_39 : decode cX10_pit 39 = .ok (.iconst 0, 1) := by decide +kernel
theorem dX10_pit_40 : decode cX10_pit 40 = .ok (.ireturn, 1) := by decide +kernel
theorem dX10_pit_41 : decode cX10_pit 41 = .ok (.aload_n 0, 1) := by decide +kernel
theorem dX10_pit_42 : decode cX10_pit 42 = .ok (.getfield 67, 3) := by decide +kernel
theorem dX10_pit_45 : decode cX10_pit 45 = .ok (.aload_n 0, 1) := by decide +kernel
theorem dX10_pit_46 : decode cX10_pit 46 = .ok (.getfield 166, 3) := by decide +kernel
theorem dX10_pit_49 : decode cX10_pit 49 = .ok (.iload_n 1, 1) := by decide +kernel
theorem dX10_pit_50 : decode cX10_pit 50 = .ok (.iastore, 1) := by decide +kernel
theorem dX10_pit_51 : decode cX10_pit 51 = .ok (.aload_n 0, 1) := by decide +kernel
theorem dX10_pit_52 : decode cX10_pit 52 = .ok (.dup, 1) := by decide +kernel
theorem dX10_pit_53 : decode cX10_pit 53 = .ok (.getfield 166, 3) := by decide +kernel
theorem dX10_pit_56 : decode cX10_pit 56 = .ok (.iconst 1, 1) := by decide +kernel
theorem dX10_pit_57 : decode cX10_pit 57 = .ok (.iadd, 1) := by decide +kernel
theorem dX10_pit_58 : decode cX10_pit 58 = .ok (.putfield 166, 3) := by decide +kernel
theorem dX10_pit_61 : decode cX10_pit 61 = .ok (.aload_n 0, 1) := by decide +kernel
theorem dX10_pit_62 : decode cX10_pit 62 = .ok (.getfield 166, 3) := by decide +kernel
theorem dX10_pit_65 : decode cX10_pit 65 = .ok (.iconst 1, 1) := by decide +kernel
theorem dX10_pit_66 : decode cX10_pit 66 = .ok (.isub, 1) := by decide +kernel
theorem dX10_pit_67 : decode cX10_pit 67 = .ok (.ireturn, 1) := by decide +kernel
set_option maxRecDepth 20000 in
theorem ggX10_light_X10_noPit : GoodIn wsX10_light wsX10_noPit := goodIn_r _ [10, 11, 12, 13, 9, 14, 19, 20, 21, 22, 23, 24, 25, 26, 27, 28, 29, 30, 31, 32, 33, 34, 35, 36, 37, 38, 39, 40, 41, 42, 43, 44, 45, 46, 47, 48, 49, 50, 51, 52, 53, 54, 55, 56, 57, 58, 59, 60, 61, 62, 63, 64, 65, 66, 67, 68, 69, 70, 71] (by decide +kernel) (by decide +kernel)
set_option maxRecDepth 20000 in
theorem gX10_light_X10_noPit : GoodIn wsX10_light (wsV RX10 196 RX10 yX10_noPit wsX10_noPit) := goodIn_app (goodIn_of _ (by decide +kernel)) ggX10_light_X10_noPit
set_option maxRecDepth 20000 in
theorem ggX10_light_X10_throwsIf : GoodIn wsX10_light wsX10_throwsIf := goodIn_r _ [18, 1, 19, 20, 21, 22, 23, 24, 25, 26, 27, 28, 29, 30, 31, 32, 33, 34, 35, 36, 37, 38, 39, 40, 41, 42, 43, 44, 45, 46, 47, 48, 49, 50, 51, 52, 53, 54, 55, 56, 57, 58, 59, 60, 61, 62, 63, 64, 65, 66, 67, 68, 69, 70, 71] (by decide +kernel) (by decide +kernel)
set_option maxRecDepth 20000 in
theorem gX10_light_X10_throwsIf : GoodIn wsX10_light (wsV RX10 141 RX10 yX10_throwsIf wsX10_throwsIf) := goodIn_app (goodIn_of _ (by decide +kernel)) ggX10_light_X10_throwsIf
set_option maxRecDepth 20000 in
theorem ggX10_light_X10_in : GoodIn wsX10_light wsX10_in := goodIn_r _ [14] (by decide +kernel) (by decide +kernel)
set_option maxRecDepth 20000 in
theorem gX10_light_X10_in : GoodIn wsX10_light (va_wsS RX10 133 yX10_in wsX10_in) := goodIn_app (goodIn_of _ (by decide +kernel)) ggX10_light_X10_in
theorem dX10_light_0 : decode cX10_light 0 = .ok (.aload_n 0, 1) := by decide +kernel
theorem dX10_light_1 : decode cX10_light 1 = .ok (.iconst 0, 1) := by decide +kernel
theorem dX10_light_2 : decode cX10_light 2 = .ok (.putfield 127, 3) := by decide +kernel
theorem dX10_light_5 : decode cX10_light 5 = .ok (.aload_n 0, 1) := by decide +kernel
theorem dX10_light_6 : decode cX10_light 6 = .ok (.aload_n 0, 1) := by decide +kernel
theorem dX10_light_7 : decode cX10_light 7 = .ok (.iload_n 1, 1) := by decide +kernel
theorem dX10_light_8 : decode cX10_light 8 = .ok (.invokevirtual 196, 3) := by decide +kernel
theorem dX10_light_11 : decode cX10_light 11 = .ok (.iconst 1, 1) := by decide +kernel
theorem dX10_light_12 : decode cX10_light 12 = .ok (.invokevirtual 141, 3) := by decide +kernel
theorem dX10_light_15 : decode cX10_light 15 = .ok (.ifCond .ne 52, 3) := by decide +kernel
theorem dX10_light_18 : decode cX10_light 18 = .ok (.aload_n 0, 1) := by decide +kernel
theorem dX10_light_19 : decode cX10_light 19 = .ok (.iload_n 2, 1) := by decide +kernel
theorem dX10_light_20 : decode cX10_light 20 = .ok (.bipush 20, 2) := by decide +kernel
theorem dX10_light_22 : decode cX10_light 22 = .ok (.sipush 1000, 3) := by decide +kernel
theorem dX10_light_25 : decode cX10_light 25 = .ok (.invokestatic 133, 3) := by decide +kernel
theorem dX10_light_28 : decode cX10_light 28 = .ok (.ifCond .ne 7, 3) := by decide +kernel
theorem dX10_light_31 : decode cX10_light 31 = .ok (.iconst 1, 1) := by decide +kernel
theorem dX10_light_32 : decode cX10_light 32 = .ok (.goto 4, 3) := by decide +kernel
theorem dX10_light_35 : decode cX10_light 35 = .ok (.iconst 0, 1) := by decide +kernel
theorem dX10_light_36 : decode cX10_light 36 = .ok (.iconst 2, 1) := by decide +kernel
theorem dX10_light_37 : decode cX10_light 37 = .ok (.invokevirtual 141, 3) := by decide +kernel
theorem dX10_light_40 : decode cX10_light 40 = .ok (.ifCond .ne 27, 3) := by decide +kernel
theorem dX10_light_43 : decode cX10_light 43 = .ok (.aload_n 0, 1) := by decide +kernel
theorem dX10_light_44 : decode cX10_light 44 = .ok (.getfield 73, 3) := by decide +kernel
theorem dX10_light_47 : decode cX10_light 47 = .ok (.iload_n 1, 1) := by decide +kernel
theorem dX10_light_48 : decode cX10_light 48 = .ok (.iaload, 1) := by decide +kernel
theorem dX10_light_49 : decode cX10_light 49 = .ok (.ifCond .gt 18, 3) := by decide +kernel
theorem dX10_light_52 : decode cX10_light 52 = .ok (.aload_n 0, 1) := by decide +kernel
theorem dX10_light_53 : decode cX10_light 53 = .ok (.getfield 49, 3) := by decide +kernel
theorem dX10_light_56 : decode cX10_light 56 = .ok (.aload_n 0, 1) := by decide +kernel
theorem dX10_light_57 : decode cX10_light 57 = .ok (.getfield 67, 3) := by decide +kernel
theorem dX10_light_60 : decode cX10_light 60 = .ok (.iload_n 1, 1) := by decide +kernel
theorem dX10_light_61 : decode cX10_light 61 = .ok (.iaload, 1) := by decide +kernel
theorem dX10_light_62 : decode cX10_light 62 = .ok (.iaload, 1) := by decide +kernel
theorem dX10_light_63 : decode cX10_light 63 = .ok (.iload_n 2, 1) := by decide +kernel
theorem dX10_light_64 : decode cX10_light 64 = .ok (.if_icmp .ge 5, 3) := by decide +kernel
theorem dX10_light_67 : decode cX10_light 67 = .ok (.iconst 0, 1) := by decide +kernel
theorem dX10_light_68 : decode cX10_light 68 = .ok (.ireturn, 1) := by decide +kernel
theorem dX10_light_69 : decode cX10_light 69 = .ok (.aload_n 0, 1) := by decide +kernel
theorem dX10_light_70 : decode cX10_light 70 = .ok (.getfield 49, 3) := by decide +kernel
theorem dX10_light_73 : decode cX10_light 73 = .ok (.aload_n 0, 1) := by decide +kernel
theorem dX10_light_74 : decode cX10_light 74 = .ok (.getfield 67, 3) := by decide +kernel
theorem dX10_light_77 : decode cX10_light 77 = .ok (.iload_n 1, 1) := by decide +kernel
theorem dX10_light_78 : decode cX10_light 78 = .ok (.iaload, 1) := by decide +kernel
theorem dX10_light_79 : decode cX10_light 79 = .ok (.dup2, 1) := by decide +kernel
theorem dX10_light_80 : decode cX10_light 80 = .ok (.iaload, 1) := by decide +kernel
theorem dX10_light_81 : decode cX10_light 81 = .ok (.iload_n 2, 1) := by decide +kernel
theorem dX10_light_82 : decode cX10_light 82 = .ok (.isub, 1) := by decide +kernel
theorem dX10_light_83 : decode cX10_light 83 = .ok (.iastore, 1) := by decide +kernel
theorem dX10_light_84 : decode cX10_light 84 = .ok (.aload_n 0, 1) := by decide +kernel
theorem dX10_light_85 : decode cX10_light 85 = .ok (.getfield 70, 3) := by decide +kernel
theorem dX10_light_88 : decode cX10_light 88 = .ok (.iload_n 1, 1) := by decide +kernel
theorem dX10_light_89 : decode cX10_light 89 = .ok (.iload_n 2, 1) := by decide +kernel
theorem dX10_light_90 : decode cX10_light 90 = .ok (.iastore, 1) := by decide +kernel
theorem dX10_light_91 : decode cX10_light 91 = .ok (.aload_n 0, 1) := by decide +kernel
theorem dX10_light_92 : decode cX10_light 92 = .ok (.getfield 73, 3) := by decide +kernel
theorem dX10_light_95 : decode cX10_light 95 = .ok (.iload_n 1, 1) := by decide +kernel
theorem dX10_light_96 : decode cX10_light 96 = .ok (.iconst 3, 1) := by decide +kernel
theorem dX10_light_97 : decode cX10_light 97 = .ok (.iastore, 1) := by decide +kernel
theorem dX10_light_98 : decode cX10_light 98 = .ok (.iconst 1, 1) := by decide +kernel
theorem dX10_light_99 : decode cX10_light 99 = .ok (.ireturn, 1) := by decide +kernel
set_option maxRecDepth 20000 in
theorem ggX10_burns_X10_noPit : GoodIn wsX10_burns wsX10_noPit := goodIn_r _ [7, 8, 9, 10, 6, 11, 16, 17, 18, 19, 20, 21, 22, 23, 24, 25, 26, 27, 28, 29, 30, 31, 32, 33, 34, 35, 36, 37, 38, 39, 40, 41, 42, 43, 44, 45, 46, 47, 48, 49, 50, 51, 52, 53, 54, 55, 56, 57, 58, 59, 60, 61, 62, 63, 64, 65, 66, 67, 68] (by decide +kernel) (by decide +kernel)
set_option maxRecDepth 20000 in
theorem gX10_burns_X10_noPit : GoodIn wsX10_burns (wsV RX10 196 RX10 yX10_noPit wsX10_noPit) := goodIn_app (goodIn_of _ (by decide +kernel)) ggX10_burns_X10_noPit
set_option maxRecDepth 20000 in
theorem ggX10_burns_X10_throwsIf : GoodIn wsX10_burns wsX10_throwsIf := goodIn_r _ [15, 1, 16, 17, 18, 19, 20, 21, 22, 23, 24, 25, 26, 27, 28, 29, 30, 31, 32, 33, 34, 35, 36, 37, 38, 39, 40, 41, 42, 43, 44, 45, 46, 47, 48, 49, 50, 51, 52, 53, 54, 55, 56, 57, 58, 59, 60, 61, 62, 63, 64, 65, 66, 67, 68] (by decide +kernel) (by decide +kernel)
set_option maxRecDepth 20000 in
theorem gX10_burns_X10_throwsIf : GoodIn wsX10_burns (wsV RX10 141 RX10 yX10_throwsIf wsX10_throwsIf) := goodIn_app (goodIn_of _ (by decide +kernel)) ggX10_burns_X10_throwsIf
theorem dX10_burns_0 : decode cX10_burns 0 = .ok (.aload_n 0, 1) := by decide +kernel
theorem dX10_burns_1 : decode cX10_burns 1 = .ok (.iconst 0, 1) := by decide +kernel
theorem dX10_burns_2 : decode cX10_burns 2 = .ok (.putfield 127, 3) := by decide +kernel
theorem dX10_burns_5 : decode cX10_burns 5 = .ok (.aload_n 0, 1) := by decide +kernel
theorem dX10_burns_6 : decode cX10_burns 6 = .ok (.aload_n 0, 1) := by decide +kernel
theorem dX10_burns_7 : decode cX10_burns 7 = .ok (.iload_n 1, 1) := by decide +kernel
theorem dX10_burns_8 : decode cX10_burns 8 = .ok (.invokevirtual 196, 3) := by decide +kernel
theorem dX10_burns_11 : decode cX10_burns 11 = .ok (.iconst 1, 1) := by decide +kernel
theorem dX10_burns_12 : decode cX10_burns 12 = .ok (.invokevirtual 141, 3) := by decide +kernel
theorem dX10_burns_15 : decode cX10_burns 15 = .ok (.ifCond .eq 7, 3) := by decide +kernel
theorem dX10_burns_18 : decode cX10_burns 18 = .ok (.iconst 0, 1) := by decide +kernel
theorem dX10_burns_19 : decode cX10_burns 19 = .ok (.goto 9, 3) := by decide +kernel
theorem dX10_burns_22 : decode cX10_burns 22 = .ok (.aload_n 0, 1) := by decide +kernel
theorem dX10_burns_23 : decode cX10_burns 23 = .ok (.getfield 73, 3) := by decide +kernel
theorem dX10_burns_26 : decode cX10_burns 26 = .ok (.iload_n 1, 1) := by decide +kernel
theorem dX10_burns_27 : decode cX10_burns 27 = .ok (.iaload, 1) := by decide +kernel
theorem dX10_burns_28 : decode cX10_burns 28 = .ok (.ireturn, 1) := by decide +kernel
theorem dX10_feed_0 : decode cX10_feed 0 = .ok (.aload_n 0, 1) := by decide +kernel
theorem dX10_feed_1 : decode cX10_feed 1 = .ok (.iconst 0, 1) := by decide +kernel
theorem dX10_feed_2 : decode cX10_feed 2 = .ok (.putfield 127, 3) := by decide +kernel
theorem dX10_feed_5 : decode cX10_feed 5 = .ok (.aload_n 0, 1) := by decide +kernel
theorem dX10_feed_6 : decode cX10_feed 6 = .ok (.getfield 199, 3) := by decide +kernel
theorem dX10_feed_9 : decode cX10_feed 9 = .ok (.bipush 20, 2) := by decide +kernel
theorem dX10_feed_11 : decode cX10_feed 11 = .ok (.iadd, 1) := by decide +kernel
theorem dX10_feed_12 : decode cX10_feed 12 = .ok (.sipush 400, 3) := by decide +kernel
theorem dX10_feed_15 : decode cX10_feed 15 = .ok (.if_icmp .le 5, 3) := by decide +kernel
theorem dX10_feed_18 : decode cX10_feed 18 = .ok (.iconst (-1), 1) := by decide +kernel
theorem dX10_feed_19 : decode cX10_feed 19 = .ok (.ireturn, 1) := by decide +kernel
theorem dX10_feed_20 : decode cX10_feed 20 = .ok (.aload_n 0, 1) := by decide +kernel
theorem dX10_feed_21 : decode cX10_feed 21 = .ok (.getfield 93, 3) := by decide +kernel
theorem dX10_feed_24 : decode cX10_feed 24 = .ok (.iconst 0, 1) := by decide +kernel
theorem dX10_feed_25 : decode cX10_feed 25 = .ok (.iload_n 1, 1) := by decide +kernel
theorem dX10_feed_26 : decode cX10_feed 26 = .ok (.iastore, 1) := by decide +kernel
theorem dX10_feed_27 : decode cX10_feed 27 = .ok (.aload_n 0, 1) := by decide +kernel
theorem dX10_feed_28 : decode cX10_feed 28 = .ok (.getfield 93, 3) := by decide +kernel
theorem dX10_feed_31 : decode cX10_feed 31 = .ok (.iconst 1, 1) := by decide +kernel
theorem dX10_feed_32 : decode cX10_feed 32 = .ok (.iload_n 2, 1) := by decide +kernel
theorem dX10_feed_33 : decode cX10_feed 33 = .ok (.iastore, 1) := by decide +kernel
theorem dX10_feed_34 : decode cX10_feed 34 = .ok (.aload_n 0, 1) := by decide +kernel
theorem dX10_feed_35 : decode cX10_feed 35 = .ok (.getfield 93, 3) := by decide +kernel
theorem dX10_feed_38 : decode cX10_feed 38 = .ok (.iconst 2, 1) := by decide +kernel
theorem dX10_feed_39 : decode cX10_feed 39 = .ok (.iload_n 3, 1) := by decide +kernel
theorem dX10_feed_40 : decode cX10_feed 40 = .ok (.iastore, 1) := by decide +kernel
theorem dX10_feed_41 : decode cX10_feed 41 = .ok (.aload_n 0, 1) := by decide +kernel
theorem dX10_feed_42 : decode cX10_feed 42 = .ok (.getfield 93, 3) := by decide +kernel
theorem dX10_feed_45 : decode cX10_feed 45 = .ok (.iconst 3, 1) := by decide +kernel
theorem dX10_feed_46 : decode cX10_feed 46 = .ok (.iload 4, 2) := by decide +kernel
theorem dX10_feed_48 : decode cX10_feed 48 = .ok (.iastore, 1) := by decide +kernel
theorem dX10_feed_49 : decode cX10_feed 49 = .ok (.aload_n 0, 1) := by decide +kernel
theorem dX10_feed_50 : decode cX10_feed 50 = .ok (.getfield 93, 3) := by decide +kernel
theorem dX10_feed_53 : decode cX10_feed 53 = .ok (.iconst 4, 1) := by decide +kernel
theorem dX10_feed_54 : decode cX10_feed 54 = .ok (.iload 5, 2) := by decide +kernel
theorem dX10_feed_56 : decode cX10_feed 56 = .ok (.iastore, 1) := by decide +kernel
theorem dX10_feed_57 : decode cX10_feed 57 = .ok (.iconst 0, 1) := by decide +kernel
theorem dX10_feed_58 : decode cX10_feed 58 = .ok (.istore 6, 2) := by decide +kernel
theorem dX10_feed_60 : decode cX10_feed 60 = .ok (.iload 6, 2) := by decide +kernel
theorem dX10_feed_62 : decode cX10_feed 62 = .ok (.bipush 20, 2) := by decide +kernel
theorem dX10_feed_64 : decode cX10_feed 64 = .ok (.if_icmp .ge 42, 3) := by decide +kernel
theorem dX10_feed_67 : decode cX10_feed 67 = .ok (.aload_n 0, 1) := by decide +kernel
theorem dX10_feed_68 : decode cX10_feed 68 = .ok (.getfield 86, 3) := by decide +kernel
theorem dX10_feed_71 : decode cX10_feed 71 = .ok (.aload_n 0, 1) := by decide +kernel
theorem dX10_feed_72 : decode cX10_feed 72 = .ok (.getfield 199, 3) := by decide +kernel
theorem dX10_feed_75 : decode cX10_feed 75 = .ok (.iload 6, 2) := by decide +kernel
theorem dX10_feed_77 : decode cX10_feed 77 = .ok (.iadd, 1) := by decide +kernel
theorem dX10_feed_78 : decode cX10_feed 78 = .ok (.aload_n 0, 1) := by decide +kernel
theorem dX10_feed_79 : decode cX10_feed 79 = .ok (.getfield 93, 3) := by decide +kernel
theorem dX10_feed_82 : decode cX10_feed 82 = .ok (.iload 6, 2) := by decide +kernel
theorem dX10_feed_84 : decode cX10_feed 84 = .ok (.iconst 4, 1) := by decide +kernel
theorem dX10_feed_85 : decode cX10_feed 85 = .ok (.idiv, 1) := by decide +kernel
theorem dX10_feed_86 : decode cX10_feed 86 = .ok (.iaload, 1) := by decide +kernel
theorem dX10_feed_87 : decode cX10_feed 87 = .ok (.bipush 24, 2) := by decide +kernel
theorem dX10_feed_89 : decode cX10_feed 89 = .ok (.bipush 8, 2) := by decide +kernel
theorem dX10_feed_91 : decode cX10_feed 91 = .ok (.iload 6, 2) := by decide +kernel
theorem dX10_feed_93 : decode cX10_feed 93 = .ok (.iconst 4, 1) := by decide +kernel
theorem dX10_feed_94 : decode cX10_feed 94 = .ok (.irem, 1) := by decide +kernel
theorem dX10_feed_95 : decode cX10_feed 95 = .ok (.imul, 1) := by decide +kernel
theorem dX10_feed_96 : decode cX10_feed 96 = .ok (.isub, 1) := by decide +kernel
theorem dX10_feed_97 : decode cX10_feed 97 = .ok (.ishr, 1) := by decide +kernel
theorem dX10_feed_98 : decode cX10_feed 98 = .ok (.i2b, 1) := by decide +kernel
theorem dX10_feed_99 : decode cX10_feed 99 = .ok (.bastore, 1) := by decide +kernel
theorem dX10_feed_100 : decode cX10_feed 100 = .ok (.iinc 6 1, 3) := by decide +kernel
theorem dX10_feed_103 : decode cX10_feed 103 = .ok (.goto (-43), 3) := by decide +kernel
theorem dX10_feed_106 : decode cX10_feed 106 = .ok (.aload_n 0, 1) := by decide +kernel
theorem dX10_feed_107 : decode cX10_feed 107 = .ok (.dup, 1) := by decide +kernel
theorem dX10_feed_108 : decode cX10_feed 108 = .ok (.getfield 199, 3) := by decide +kernel
theorem dX10_feed_111 : decode cX10_feed 111 = .ok (.bipush 20, 2) := by decide +kernel
theorem dX10_feed_113 : decode cX10_feed 113 = .ok (.iadd, 1) := by decide +kernel
theorem dX10_feed_114 : decode cX10_feed 114 = .ok (.putfield 199, 3) := by decide +kernel
theorem dX10_feed_117 : decode cX10_feed 117 = .ok (.aload_n 0, 1) := by decide +kernel
theorem dX10_feed_118 : decode cX10_feed 118 = .ok (.getfield 199, 3) := by decide +kernel
theorem dX10_feed_121 : decode cX10_feed 121 = .ok (.ireturn, 1) := by decide +kernel
theorem dX10_end_0 : decode cX10_end 0 = .ok (.aload_n 0, 1) := by decide +kernel
theorem dX10_end_1 : decode cX10_end 1 = .ok (.iconst 0, 1) := by decide +kernel
theorem dX10_end_2 : decode cX10_end 2 = .ok (.putfield 127, 3) := by decide +kernel
theorem dX10_end_5 : decode cX10_end 5 = .ok (.iload_n 1, 1) := by decide +kernel
theorem dX10_end_6 : decode cX10_end 6 = .ok (.ifCond .lt 11, 3) := by decide +kernel
theorem dX10_end_9 : decode cX10_end 9 = .ok (.iload_n 1, 1) := by decide +kernel
theorem dX10_end_10 : decode cX10_end 10 = .ok (.aload_n 0, 1) := by decide +kernel
theorem dX10_end_11 : decode cX10_end 11 = .ok (.getfield 199, 3) := by decide +kernel
theorem dX10_end_14 : decode cX10_end 14 = .ok (.if_icmp .le 5, 3) := by decide +kernel
theorem dX10_end_17 : decode cX10_end 17 = .ok (.iconst 0, 1) := by decide +kernel
theorem dX10_end_18 : decode cX10_end 18 = .ok (.ireturn, 1) := by decide +kernel
theorem dX10_end_19 : decode cX10_end 19 = .ok (.aload_n 0, 1) := by decide +kernel
theorem dX10_end_20 : decode cX10_end 20 = .ok (.iload_n 1, 1) := by decide +kernel
theorem dX10_end_21 : decode cX10_end 21 = .ok (.putfield 199, 3) := by decide +kernel
theorem dX10_end_24 : decode cX10_end 24 = .ok (.iconst 1, 1) := by decide +kernel
theorem dX10_end_25 : decode cX10_end 25 = .ok (.ireturn, 1) := by decide +kernel
theorem dX10_isAt_0 : decode cX10_isAt 0 = .ok (.aload_n 0, 1) := by decide +kernel
theorem dX10_isAt_1 : decode cX10_isAt 1 = .ok (.getfield 202, 3) := by decide +kernel
theorem dX10_isAt_4 : decode cX10_isAt 4 = .ok (.aload_n 0, 1) := by decide +kernel
theorem dX10_isAt_5 : decode cX10_isAt 5 = .ok (.getfield 205, 3) := by decide +kernel
theorem dX10_isAt_8 : decode cX10_isAt 8 = .ok (.if_icmp .ge 33, 3) := by decide +kernel
theorem dX10_isAt_11 : decode cX10_isAt 11 = .ok (.aload_n 0, 1) := by decide +kernel
theorem dX10_isAt_12 : decode cX10_isAt 12 = .ok (.getfield 86, 3) := by decide +kernel
theorem dX10_isAt_15 : decode cX10_isAt 15 = .ok (.aload_n 0, 1) := by decide +kernel
theorem dX10_isAt_16 : decode cX10_isAt 16 = .ok (.getfield 202, 3) := by decide +kernel
theorem dX10_isAt_19 : decode cX10_isAt 19 = .ok (.baload, 1) := by decide +kernel
theorem dX10_isAt_20 : decode cX10_isAt 20 = .ok (.iload_n 1, 1) := by decide +kernel
theorem dX10_isAt_21 : decode cX10_isAt 21 = .ok (.if_icmp .lt 20, 3) := by decide +kernel
theorem dX10_isAt_24 : decode cX10_isAt 24 = .ok (.aload_n 0, 1) := by decide +kernel
theorem dX10_isAt_25 : decode cX10_isAt 25 = .ok (.getfield 86, 3) := by decide +kernel
theorem dX10_isAt_28 : decode cX10_isAt 28 = .ok (.aload_n 0, 1) := by decide +kernel
theorem dX10_isAt_29 : decode cX10_isAt 29 = .ok (.getfield 202, 3) := by decide +kernel
theorem dX10_isAt_32 : decode cX10_isAt 32 = .ok (.baload, 1) := by decide +kernel
theorem dX10_isAt_33 : decode cX10_isAt 33 = .ok (.iload_n 2, 1) := by decide +kernel
theorem dX10_isAt_34 : decode cX10_isAt 34 = .ok (.if_icmp .gt 7, 3) := by decide +kernel
theorem dX10_isAt_37 : decode cX10_isAt 37 = .ok (.iconst 1, 1) := by decide +kernel
theorem dX10_isAt_38 : decode cX10_isAt 38 = .ok (.goto 4, 3) := by decide +kernel
theorem dX10_isAt_41 : decode cX10_isAt 41 = .ok (.iconst 0, 1) := by decide +kernel
theorem dX10_isAt_42 : decode cX10_isAt 42 = .ok (.ireturn, 1) := by decide +kernel
set_option maxRecDepth 20000 in
theorem ggX10_blanks_X10_isAt : GoodIn wsX10_blanks wsX10_isAt := goodIn_r _ [7, 1, 8, 9, 10, 11, 12, 13, 14, 15, 16, 17, 18, 19, 20, 21, 22, 23, 24, 25, 26, 27, 28, 29, 30, 31, 32, 33, 34, 35, 36, 37, 38, 39, 40, 41, 42, 43, 44, 45, 46, 47, 48, 49, 50, 51, 52, 53, 54, 55, 56, 57, 58, 59, 60, 61, 62] (by decide +kernel) (by decide +kernel)
set_option maxRecDepth 20000 in
theorem gX10_blanks_X10_isAt : GoodIn wsX10_blanks (wsV RX10 208 RX10 yX10_isAt wsX10_isAt) := goodIn_app (goodIn_of _ (by decide +kernel)) ggX10_blanks_X10_isAt
theorem dX10_blanks_0 : decode cX10_blanks 0 = .ok (.aload_n 0, 1) := by decide +kernel
theorem dX10_blanks_1 : decode cX10_blanks 1 = .ok (.bipush 32, 2) := by decide +kernel
theorem dX10_blanks_3 : decode cX10_blanks 3 = .ok (.bipush 32, 2) := by decide +kernel
theorem dX10_blanks_5 : decode cX10_blanks 5 = .ok (.invokevirtual 208, 3) := by decide +kernel
theorem dX10_blanks_8 : decode cX10_blanks 8 = .ok (.ifCond .eq 16, 3) := by decide +kernel
theorem dX10_blanks_11 : decode cX10_blanks 11 = .ok (.aload_n 0, 1) := by decide +kernel
theorem dX10_blanks_12 : decode cX10_blanks 12 = .ok (.dup, 1) := by decide +kernel
theorem dX10_blanks_13 : decode cX10_blanks 13 = .ok (.getfield 202, 3) := by decide +kernel
theorem dX10_blanks_16 : decode cX10_blanks 16 = .ok (.iconst 1, 1) := by decide +kernel
theorem dX10_blanks_17 : decode cX10_blanks 17 = .ok (.iadd, 1) := by decide +kernel
theorem dX10_blanks_18 : decode cX10_blanks 18 = .ok (.putfield 202, 3) := by decide +kernel
theorem dX10_blanks_21 : decode cX10_blanks 21 = .ok (.goto (-21), 3) := by decide +kernel
theorem dX10_blanks_24 : decode cX10_blanks 24 = .ok (.aload_n 0, 1) := by decide +kernel
theorem dX10_blanks_25 : decode cX10_blanks 25 = .ok (.aload_n 0, 1) := by decide +kernel
theorem dX10_blanks_26 : decode cX10_blanks 26 = .ok (.getfield 202, 3) := by decide +kernel
theorem dX10_blanks_29 : decode cX10_blanks 29 = .ok (.putfield 211, 3) := by decide +kernel
theorem dX10_blanks_32 : decode cX10_blanks 32 = .ok (.return_, 1) := by decide +kernel
set_option maxRecDepth 20000 in
theorem ggX10_isWord_J0_length_8abf5 : GoodIn wsX10_isWord wsJ0_length_8abf5 := goodIn_r _ [8, 9, 10, 11, 12, 7, 13, 14, 15] (by decide +kernel) (by decide +kernel)
set_option maxRecDepth 20000 in
theorem gX10_isWord_J0_length_8abf5 : GoodIn wsX10_isWord (wsV RX10 214 RJ0 yJ0_length_8abf5 wsJ0_length_8abf5) := goodIn_app (goodIn_of _ (by decide +kernel)) ggX10_isWord_J0_length_8abf5
set_option maxRecDepth 20000 in
theorem ggX10_isWord_J0_charAt_5068e : GoodIn wsX10_isWord wsJ0_charAt_5068e := goodIn_r _ [19, 9, 20, 21, 22, 7, 23, 14, 15, 24, 25, 26, 27, 28, 29, 30, 31, 32, 33, 34, 35, 36, 37, 38, 39, 40, 41, 42, 43, 44, 45, 46, 47, 48, 49, 50, 51, 52] (by decide +kernel) (by decide +kernel)
set_option maxRecDepth 20000 in
theorem gX10_isWord_J0_charAt_5068e : GoodIn wsX10_isWord (wsV RX10 220 RJ0 yJ0_charAt_5068e wsJ0_charAt_5068e) := goodIn_app (goodIn_of _ (by decide +kernel)) ggX10_isWord_J0_charAt_5068e
theorem dX10_isWord_0 : decode cX10_isWord 0 = .ok (.aload_n 0, 1) := by decide +kernel
theorem dX10_isWord_1 : decode cX10_isWord 1 = .ok (.getfield 202, 3) := by decide +kernel
theorem dX10_isWord_4 : decode cX10_isWord 4 = .ok (.aload_n 0, 1) := by decide +kernel
theorem dX10_isWord_5 : decode cX10_isWord 5 = .ok (.getfield 211, 3) := by decide +kernel
theorem dX10_isWord_8 : decode cX10_isWord 8 = .ok (.isub, 1) := by decide +kernel
theorem dX10_isWord_9 : decode cX10_isWord 9 = .ok (.aload_n 1, 1) := by decide +kernel
theorem dX10_isWord_10 : decode cX10_isWord 10 = .ok (.invokevirtual 214, 3) := by decide +kernel
theorem dX10_isWord_13 : decode cX10_isWord 13 = .ok (.if_icmp .ne 7, 3) := by decide +kernel
theorem dX10_isWord_16 : decode cX10_isWord 16 = .ok (.iconst 1, 1) := by decide +kernel
theorem dX10_isWord_17 : decode cX10_isWord 17 = .ok (.goto 4, 3) := by decide +kernel
theorem dX10_isWord_20 : decode cX10_isWord 20 = .ok (.iconst 0, 1) := by decide +kernel
theorem dX10_isWord_21 : decode cX10_isWord 21 = .ok (.istore_n 2, 1) := by decide +kernel
theorem dX10_isWord_22 : decode cX10_isWord 22 = .ok (.iconst 0, 1) := by decide +kernel
theorem dX10_isWord_23 : decode cX10_isWord 23 = .ok (.istore_n 3, 1) := by decide +kernel
theorem dX10_isWord_24 : decode cX10_isWord 24 = .ok (.iload_n 2, 1) := by decide +kernel
theorem dX10_isWord_25 : decode cX10_isWord 25 = .ok (.ifCond .eq 42, 3) := by decide +kernel
theorem dX10_isWord_28 : decode cX10_isWord 28 = .ok (.iload_n 3, 1) := by decide +kernel
theorem dX10_isWord_29 : decode cX10_isWord 29 = .ok (.aload_n 1, 1) := by decide +kernel
theorem dX10_isWord_30 : decode cX10_isWord 30 = .ok (.invokevirtual 214, 3) := by decide +kernel
theorem dX10_isWord_33 : decode cX10_isWord 33 = .ok (.if_icmp .ge 34, 3) := by decide +kernel
theorem dX10_isWord_36 : decode cX10_isWord 36 = .ok (.aload_n 0, 1) := by decide +kernel
theorem dX10_isWord_37 : decode cX10_isWord 37 = .ok (.getfield 86, 3) := by decide +kernel
theorem dX10_isWord_40 : decode cX10_isWord 40 = .ok (.aload_n 0, 1) := by decide +kernel
theorem dX10_isWord_41 : decode cX10_isWord 41 = .ok (.getfield 211, 3) := by decide +kernel
theorem dX10_isWord_44 : decode cX10_isWord 44 = .ok (.iload_n 3, 1) := by decide +kernel
theorem dX10_isWord_45 : decode cX10_isWord 45 = .ok (.iadd, 1) := by decide +kernel
theorem dX10_isWord_46 : decode cX10_isWord 46 = .ok (.baload, 1) := by decide +kernel
theorem dX10_isWord_47 : decode cX10_isWord 47 = .ok (.aload_n 1, 1) := by decide +kernel
theorem dX10_isWord_48 : decode cX10_isWord 48 = .ok (.iload_n 3, 1) := by decide +kernel
theorem dX10_isWord_49 : decode cX10_isWord 49 = .ok (.invokevirtual 220, 3) := by decide +kernel
theorem dX10_isWord_52 : decode cX10_isWord 52 = .ok (.if_icmp .ne 7, 3) := by decide +kernel
theorem dX10_isWord_55 : decode cX10_isWord 55 = .ok (.iconst 1, 1) := by decide +kernel
theorem dX10_isWord_56 : decode cX10_isWord 56 = .ok (.goto 4, 3) := by decide +kernel
theorem dX10_isWord_59 : decode cX10_isWord 59 = .ok (.iconst 0, 1) := by decide +kernel
theorem dX10_isWord_60 : decode cX10_isWord 60 = .ok (.istore_n 2, 1) := by decide +kernel
theorem dX10_isWord_61 : decode cX10_isWord 61 = .ok (.iinc 3 1, 3) := by decide +kernel
theorem dX10_isWord_64 : decode cX10_isWord 64 = .ok (.goto (-40), 3) := by decide +kernel
theorem dX10_isWord_67 : decode cX10_isWord 67 = .ok (.iload_n 2, 1) := by decide +kernel
theorem dX10_isWord_68 : decode cX10_isWord 68 = .ok (.ireturn, 1) := by decide +kernel
set_option maxRecDepth 20000 in
theorem ggX10_word_X10_blanks : GoodIn wsX10_word wsX10_blanks := goodIn_r _ [6, 1, 7, 8, 9, 10, 5, 11, 12, 13, 14, 15, 16, 17, 18, 19, 20, 21, 22, 23, 24, 25, 26, 27, 28, 29, 30, 31, 32, 33, 34, 35, 36, 37, 38, 39, 40, 41, 42, 43, 44, 45, 46, 47, 48, 49, 50, 51, 52, 53, 54, 55, 56, 57, 58, 59, 60, 61, 62, 63, 64, 65, 66] (by decide +kernel) (by decide +kernel)
set_option maxRecDepth 20000 in
theorem gX10_word_X10_blanks : GoodIn wsX10_word (wsV RX10 224 RX10 yX10_blanks wsX10_blanks) := goodIn_app (goodIn_of _ (by decide +kernel)) ggX10_word_X10_blanks
set_option maxRecDepth 20000 in
theorem ggX10_word_X10_isAt : GoodIn wsX10_word wsX10_isAt := goodIn_r _ [11, 1, 12, 13, 14, 15, 16, 17, 18, 19, 20, 21, 22, 23, 24, 25, 26, 27, 28, 29, 30, 31, 32, 33, 34, 35, 36, 37, 38, 39, 40, 41, 42, 43, 44, 45, 46, 47, 48, 49, 50, 51, 52, 53, 54, 55, 56, 57, 58, 59, 60, 61, 62, 63, 64, 65, 66] (by decide +kernel) (by decide +kernel)
set_option maxRecDepth 20000 in
theorem gX10_word_X10_isAt : GoodIn wsX10_word (wsV RX10 208 RX10 yX10_isAt wsX10_isAt) := goodIn_app (goodIn_of _ (by decide +kernel)) ggX10_word_X10_isAt
theorem dX10_word_0 : decode cX10_word 0 = .ok (.aload_n 0, 1) := by decide +kernel
theorem dX10_word_1 : decode cX10_word 1 = .ok (.invokevirtual 224, 3) := by decide +kernel
theorem dX10_word_4 : decode cX10_word 4 = .ok (.aload_n 0, 1) := by decide +kernel
theorem dX10_word_5 : decode cX10_word 5 = .ok (.bipush 97, 2) := by decide +kernel
theorem dX10_word_7 : decode cX10_word 7 = .ok (.bipush 122, 2) := by decide +kernel
theorem dX10_word_9 : decode cX10_word 9 = .ok (.invokevirtual 208, 3) := by decide +kernel
theorem dX10_word_12 : decode cX10_word 12 = .ok (.ifCond .eq 16, 3) := by decide +kernel
theorem dX10_word_15 : decode cX10_word 15 = .ok (.aload_n 0, 1) := by decide +kernel
theorem dX10_word_16 : decode cX10_word 16 = .ok (.dup, 1) := by decide +kernel
theorem dX10_word_17 : decode cX10_word 17 = .ok (.getfield 202, 3) := by decide +kernel
theorem dX10_word_20 : decode cX10_word 20 = .ok (.iconst 1, 1) := by decide +kernel
theorem dX10_word_21 : decode cX10_word 21 = .ok (.iadd, 1) := by decide +kernel
