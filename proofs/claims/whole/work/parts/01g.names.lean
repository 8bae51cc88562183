theorem dX10_word_22 : decode cX10_word 22 = .ok (.putfield 202, 3) := by decide +kernel
theorem dX10_word_25 : decode cX10_word 25 = .ok (.goto (-21), 3) := by decide +kernel
theorem dX10_word_28 : decode cX10_word 28 = .ok (.return_, 1) := by decide +kernel
set_option maxRecDepth 20000 in
theorem ggX10_reads_X10_word : GoodIn wsX10_reads wsX10_word := goodIn_r _ [5, 6, 7, 8, 9, 4, 10, 11, 12, 13, 14, 15, 16, 17, 75, 76, 77, 78, 79, 80, 81, 82, 83, 84, 85, 86, 87, 88, 89, 90, 91, 92, 93, 94, 95, 96, 97, 98, 99, 100, 101, 102, 103, 104, 105, 106, 107, 108, 109, 110, 111, 112, 113, 114, 115, 116, 117, 118, 119, 120, 121, 122, 123, 124, 125, 126, 127] (by decide +kernel) (by decide +kernel)
set_option maxRecDepth 20000 in
theorem gX10_reads_X10_word : GoodIn wsX10_reads (wsV RX10 227 RX10 yX10_word wsX10_word) := goodIn_app (goodIn_of _ (by decide +kernel)) ggX10_reads_X10_word
set_option maxRecDepth 20000 in
theorem ggX10_reads_X10_isWord : GoodIn wsX10_reads wsX10_isWord := goodIn_r _ [21, 6, 11, 17, 22, 23, 24, 25, 26, 27, 28, 29, 30, 31, 32, 33, 34, 35, 36, 37, 38, 39, 40, 41, 42, 43, 44, 45, 46, 47, 48, 49, 50, 51, 52, 53, 54, 55, 56, 57, 58, 59, 60, 61, 62, 63, 64, 65, 66, 67, 68, 69, 70, 75, 76, 77, 78, 79, 80, 81, 82, 83, 84, 85, 86, 87, 88, 89, 90, 91, 92, 93, 94, 95, 96, 97, 98, 99, 100, 101, 102, 103, 104, 105, 106, 107, 108, 109, 110, 111, 112, 113, 114, 115, 116, 117, 118, 119, 120, 121, 122, 123, 124, 125, 126, 127] (by decide +kernel) (by decide +kernel)
set_option maxRecDepth 20000 in
theorem gX10_reads_X10_isWord : GoodIn wsX10_reads (wsV RX10 230 RX10 yX10_isWord wsX10_isWord) := goodIn_app (goodIn_of _ (by decide +kernel)) ggX10_reads_X10_isWord
set_option maxRecDepth 20000 in
theorem ggX10_reads_X10_number : GoodIn wsX10_reads wsX10_number := goodIn_r _ [74, 6, 11, 17, 7, 8, 9, 4, 10, 12, 13, 14, 15, 16, 75, 76, 77, 78, 79, 80, 81, 82, 83, 84, 85, 86, 87, 88, 89, 90, 91, 92, 93, 94, 95, 96, 97, 98, 99, 100, 101, 102, 103, 104, 105, 106, 107, 108, 109, 110, 111, 112, 113, 114, 115, 116, 117, 118, 119, 120, 121, 122, 123, 124, 125, 126, 127] (by decide +kernel) (by decide +kernel)
set_option maxRecDepth 20000 in
theorem gX10_reads_X10_number : GoodIn wsX10_reads (wsV RX10 234 RX10 yX10_number wsX10_number) := goodIn_app (goodIn_of _ (by decide +kernel)) ggX10_reads_X10_number
theorem dX10_reads_0 : decode cX10_reads 0 = .ok (.aload_n 0, 1) := by decide +kernel
theorem dX10_reads_1 : decode cX10_reads 1 = .ok (.invokevirtual 227, 3) := by decide +kernel
theorem dX10_reads_4 : decode cX10_reads 4 = .ok (.aload_n 0, 1) := by decide +kernel
theorem dX10_reads_5 : decode cX10_reads 5 = .ok (.aload_n 1, 1) := by decide +kernel
theorem dX10_reads_6 : decode cX10_reads 6 = .ok (.invokevirtual 230, 3) := by decide +kernel
theorem dX10_reads_9 : decode cX10_reads 9 = .ok (.ifCond .eq 12, 3) := by decide +kernel
theorem dX10_reads_12 : decode cX10_reads 12 = .ok (.aload_n 0, 1) := by decide +kernel
theorem dX10_reads_13 : decode cX10_reads 13 = .ok (.iload_n 2, 1) := by decide +kernel
theorem dX10_reads_14 : decode cX10_reads 14 = .ok (.iload_n 3, 1) := by decide +kernel
theorem dX10_reads_15 : decode cX10_reads 15 = .ok (.invokevirtual 234, 3) := by decide +kernel
theorem dX10_reads_18 : decode cX10_reads 18 = .ok (.goto 4, 3) := by decide +kernel
theorem dX10_reads_21 : decode cX10_reads 21 = .ok (.iconst (-1), 1) := by decide +kernel
theorem dX10_reads_22 : decode cX10_reads 22 = .ok (.ireturn, 1) := by decide +kernel
set_option maxRecDepth 20000 in
theorem ggX10_number_X10_blanks : GoodIn wsX10_number wsX10_blanks := goodIn_r _ [8, 1, 2, 9, 10, 11, 7, 12, 13, 3, 14, 15, 16, 17, 18, 19, 20, 21, 22, 23, 24, 25, 26, 27, 28, 29, 30, 31, 32, 33, 34, 35, 36, 37, 38, 39, 40, 41, 42, 43, 44, 45, 46, 47, 48, 49, 50, 51, 52, 53, 54, 55, 56, 57, 58, 59, 60, 61, 62, 63, 64, 65, 66] (by decide +kernel) (by decide +kernel)
set_option maxRecDepth 20000 in
theorem gX10_number_X10_blanks : GoodIn wsX10_number (wsV RX10 224 RX10 yX10_blanks wsX10_blanks) := goodIn_app (goodIn_of _ (by decide +kernel)) ggX10_number_X10_blanks
set_option maxRecDepth 20000 in
theorem ggX10_number_X10_isAt : GoodIn wsX10_number wsX10_isAt := goodIn_r _ [12, 1, 13, 3, 14, 15, 16, 17, 18, 19, 20, 21, 22, 23, 24, 25, 26, 27, 28, 29, 30, 31, 32, 33, 34, 35, 36, 37, 38, 39, 40, 41, 42, 43, 44, 45, 46, 47, 48, 49, 50, 51, 52, 53, 54, 55, 56, 57, 58, 59, 60, 61, 62, 63, 64, 65, 66] (by decide +kernel) (by decide +kernel)
set_option maxRecDepth 20000 in
theorem gX10_number_X10_isAt : GoodIn wsX10_number (wsV RX10 208 RX10 yX10_isAt wsX10_isAt) := goodIn_app (goodIn_of _ (by decide +kernel)) ggX10_number_X10_isAt
theorem dX10_number_0 : decode cX10_number 0 = .ok (.aload_n 0, 1) := by decide +kernel
theorem dX10_number_1 : decode cX10_number 1 = .ok (.invokevirtual 224, 3) := by decide +kernel
theorem dX10_number_4 : decode cX10_number 4 = .ok (.iconst 0, 1) := by decide +kernel
theorem dX10_number_5 : decode cX10_number 5 = .ok (.istore_n 3, 1) := by decide +kernel
theorem dX10_number_6 : decode cX10_number 6 = .ok (.aload_n 0, 1) := by decide +kernel
theorem dX10_number_7 : decode cX10_number 7 = .ok (.bipush 48, 2) := by decide +kernel
theorem dX10_number_9 : decode cX10_number 9 = .ok (.bipush 57, 2) := by decide +kernel
theorem dX10_number_11 : decode cX10_number 11 = .ok (.invokevirtual 208, 3) := by decide +kernel
theorem dX10_number_14 : decode cX10_number 14 = .ok (.ifCond .eq 51, 3) := by decide +kernel
theorem dX10_number_17 : decode cX10_number 17 = .ok (.aload_n 0, 1) := by decide +kernel
theorem dX10_number_18 : decode cX10_number 18 = .ok (.getfield 202, 3) := by decide +kernel
theorem dX10_number_21 : decode cX10_number 21 = .ok (.aload_n 0, 1) := by decide +kernel
theorem dX10_number_22 : decode cX10_number 22 = .ok (.getfield 211, 3) := by decide +kernel
theorem dX10_number_25 : decode cX10_number 25 = .ok (.isub, 1) := by decide +kernel
theorem dX10_number_26 : decode cX10_number 26 = .ok (.iconst 3, 1) := by decide +kernel
theorem dX10_number_27 : decode cX10_number 27 = .ok (.if_icmp .ge 23, 3) := by decide +kernel
theorem dX10_number_30 : decode cX10_number 30 = .ok (.bipush 10, 2) := by decide +kernel
theorem dX10_number_32 : decode cX10_number 32 = .ok (.iload_n 3, 1) := by decide +kernel
theorem dX10_number_33 : decode cX10_number 33 = .ok (.imul, 1) := by decide +kernel
theorem dX10_number_34 : decode cX10_number 34 = .ok (.aload_n 0, 1) := by decide +kernel
theorem dX10_number_35 : decode cX10_number 35 = .ok (.getfield 86, 3) := by decide +kernel
theorem dX10_number_38 : decode cX10_number 38 = .ok (.aload_n 0, 1) := by decide +kernel
theorem dX10_number_39 : decode cX10_number 39 = .ok (.getfield 202, 3) := by decide +kernel
theorem dX10_number_42 : decode cX10_number 42 = .ok (.baload, 1) := by decide +kernel
theorem dX10_number_43 : decode cX10_number 43 = .ok (.iadd, 1) := by decide +kernel
theorem dX10_number_44 : decode cX10_number 44 = .ok (.bipush 48, 2) := by decide +kernel
theorem dX10_number_46 : decode cX10_number 46 = .ok (.isub, 1) := by decide +kernel
theorem dX10_number_47 : decode cX10_number 47 = .ok (.goto 4, 3) := by decide +kernel
theorem dX10_number_50 : decode cX10_number 50 = .ok (.iload_n 3, 1) := by decide +kernel
theorem dX10_number_51 : decode cX10_number 51 = .ok (.istore_n 3, 1) := by decide +kernel
theorem dX10_number_52 : decode cX10_number 52 = .ok (.aload_n 0, 1) := by decide +kernel
theorem dX10_number_53 : decode cX10_number 53 = .ok (.dup, 1) := by decide +kernel
theorem dX10_number_54 : decode cX10_number 54 = .ok (.getfield 202, 3) := by decide +kernel
theorem dX10_number_57 : decode cX10_number 57 = .ok (.iconst 1, 1) := by decide +kernel
theorem dX10_number_58 : decode cX10_number 58 = .ok (.iadd, 1) := by decide +kernel
theorem dX10_number_59 : decode cX10_number 59 = .ok (.putfield 202, 3) := by decide +kernel
theorem dX10_number_62 : decode cX10_number 62 = .ok (.goto (-56), 3) := by decide +kernel
theorem dX10_number_65 : decode cX10_number 65 = .ok (.aload_n 0, 1) := by decide +kernel
theorem dX10_number_66 : decode cX10_number 66 = .ok (.getfield 202, 3) := by decide +kernel
theorem dX10_number_69 : decode cX10_number 69 = .ok (.aload_n 0, 1) := by decide +kernel
theorem dX10_number_70 : decode cX10_number 70 = .ok (.getfield 211, 3) := by decide +kernel
theorem dX10_number_73 : decode cX10_number 73 = .ok (.if_icmp .eq 26, 3) := by decide +kernel
theorem dX10_number_76 : decode cX10_number 76 = .ok (.aload_n 0, 1) := by decide +kernel
theorem dX10_number_77 : decode cX10_number 77 = .ok (.getfield 202, 3) := by decide +kernel
theorem dX10_number_80 : decode cX10_number 80 = .ok (.aload_n 0, 1) := by decide +kernel
theorem dX10_number_81 : decode cX10_number 81 = .ok (.getfield 211, 3) := by decide +kernel
theorem dX10_number_84 : decode cX10_number 84 = .ok (.isub, 1) := by decide +kernel
theorem dX10_number_85 : decode cX10_number 85 = .ok (.iconst 3, 1) := by decide +kernel
theorem dX10_number_86 : decode cX10_number 86 = .ok (.if_icmp .gt 13, 3) := by decide +kernel
theorem dX10_number_89 : decode cX10_number 89 = .ok (.iload_n 3, 1) := by decide +kernel
theorem dX10_number_90 : decode cX10_number 90 = .ok (.iload_n 1, 1) := by decide +kernel
theorem dX10_number_91 : decode cX10_number 91 = .ok (.if_icmp .lt 8, 3) := by decide +kernel
theorem dX10_number_94 : decode cX10_number 94 = .ok (.iload_n 3, 1) := by decide +kernel
theorem dX10_number_95 : decode cX10_number 95 = .ok (.iload_n 2, 1) := by decide +kernel
theorem dX10_number_96 : decode cX10_number 96 = .ok (.if_icmp .le 7, 3) := by decide +kernel
theorem dX10_number_99 : decode cX10_number 99 = .ok (.iconst (-1), 1) := by decide +kernel
theorem dX10_number_100 : decode cX10_number 100 = .ok (.goto 4, 3) := by decide +kernel
theorem dX10_number_103 : decode cX10_number 103 = .ok (.iload_n 3, 1) := by decide +kernel
theorem dX10_number_104 : decode cX10_number 104 = .ok (.ireturn, 1) := by decide +kernel
set_option maxRecDepth 20000 in
theorem ggX10_readPart_X10_word : GoodIn wsX10_readPart wsX10_word := goodIn_r _ [9, 10, 11, 12, 13, 8, 14, 15, 16, 17, 18, 19, 20, 21, 83, 84, 85, 86, 87, 88, 89, 90, 91, 92, 93, 94, 95, 96, 97, 98, 99, 100, 101, 102, 103, 104, 105, 106, 107, 108, 109, 110, 111, 112, 113, 114, 115, 116, 117, 118, 119, 120, 121, 122, 123, 124, 125, 126, 127, 128, 129, 130, 131, 132, 133, 134, 135] (by decide +kernel) (by decide +kernel)
set_option maxRecDepth 20000 in
theorem gX10_readPart_X10_word : GoodIn wsX10_readPart (wsV RX10 227 RX10 yX10_word wsX10_word) := goodIn_app (goodIn_of _ (by decide +kernel)) ggX10_readPart_X10_word
set_option maxRecDepth 20000 in
theorem ggX10_readPart_X10_isWord : GoodIn wsX10_readPart wsX10_isWord := goodIn_r _ [25, 10, 15, 21, 26, 27, 28, 29, 30, 31, 32, 33, 34, 35, 36, 37, 38, 39, 40, 41, 42, 43, 44, 45, 46, 47, 48, 49, 50, 51, 52, 53, 54, 55, 56, 57, 58, 59, 60, 61, 62, 63, 64, 65, 66, 67, 68, 69, 70, 71, 72, 73, 74, 83, 84, 85, 86, 87, 88, 89, 90, 91, 92, 93, 94, 95, 96, 97, 98, 99, 100, 101, 102, 103, 104, 105, 106, 107, 108, 109, 110, 111, 112, 113, 114, 115, 116, 117, 118, 119, 120, 121, 122, 123, 124, 125, 126, 127, 128, 129, 130, 131, 132, 133, 134, 135] (by decide +kernel) (by decide +kernel)
set_option maxRecDepth 20000 in
theorem gX10_readPart_X10_isWord : GoodIn wsX10_readPart (wsV RX10 230 RX10 yX10_isWord wsX10_isWord) := goodIn_app (goodIn_of _ (by decide +kernel)) ggX10_readPart_X10_isWord
set_option maxRecDepth 20000 in
theorem ggX10_readPart_X10_number : GoodIn wsX10_readPart wsX10_number := goodIn_r _ [78, 10, 15, 21, 11, 12, 13, 8, 14, 16, 17, 18, 19, 20, 83, 84, 85, 86, 87, 88, 89, 90, 91, 92, 93, 94, 95, 96, 97, 98, 99, 100, 101, 102, 103, 104, 105, 106, 107, 108, 109, 110, 111, 112, 113, 114, 115, 116, 117, 118, 119, 120, 121, 122, 123, 124, 125, 126, 127, 128, 129, 130, 131, 132, 133, 134, 135] (by decide +kernel) (by decide +kernel)
set_option maxRecDepth 20000 in
theorem gX10_readPart_X10_number : GoodIn wsX10_readPart (wsV RX10 234 RX10 yX10_number wsX10_number) := goodIn_app (goodIn_of _ (by decide +kernel)) ggX10_readPart_X10_number
set_option maxRecDepth 20000 in
theorem ggX10_readPart_X10_reads : GoodIn wsX10_readPart wsX10_reads := goodIn_r _ [82, 5, 6, 7, 8, 9, 10, 11, 12, 13, 14, 15, 16, 17, 18, 19, 20, 21, 22, 23, 24, 25, 26, 27, 28, 29, 30, 31, 32, 33, 34, 35, 36, 37, 38, 39, 40, 41, 42, 43, 44, 45, 46, 47, 48, 49, 50, 51, 52, 53, 54, 55, 56, 57, 58, 59, 60, 61, 62, 63, 64, 65, 66, 67, 68, 69, 70, 71, 72, 73, 74, 75, 76, 77, 78, 83, 84, 85, 86, 87, 88, 89, 90, 91, 92, 93, 94, 95, 96, 97, 98, 99, 100, 101, 102, 103, 104, 105, 106, 107, 108, 109, 110, 111, 112, 113, 114, 115, 116, 117, 118, 119, 120, 121, 122, 123, 124, 125, 126, 127, 128, 129, 130, 131, 132, 133, 134, 135] (by decide +kernel) (by decide +kernel)
set_option maxRecDepth 20000 in
theorem gX10_readPart_X10_reads : GoodIn wsX10_readPart (wsV RX10 248 RX10 yX10_reads wsX10_reads) := goodIn_app (goodIn_of _ (by decide +kernel)) ggX10_readPart_X10_reads
theorem dX10_readPart_0 : decode cX10_readPart 0 = .ok (.aload_n 0, 1) := by decide +kernel
theorem dX10_readPart_1 : decode cX10_readPart 1 = .ok (.invokevirtual 227, 3) := by decide +kernel
theorem dX10_readPart_4 : decode cX10_readPart 4 = .ok (.aload_n 0, 1) := by decide +kernel
theorem dX10_readPart_5 : decode cX10_readPart 5 = .ok (.ldc 237, 2) := by decide +kernel
theorem dX10_readPart_7 : decode cX10_readPart 7 = .ok (.invokevirtual 230, 3) := by decide +kernel
theorem dX10_readPart_10 : decode cX10_readPart 10 = .ok (.ifCond .eq 27, 3) := by decide +kernel
theorem dX10_readPart_13 : decode cX10_readPart 13 = .ok (.aload_n 0, 1) := by decide +kernel
theorem dX10_readPart_14 : decode cX10_readPart 14 = .ok (.aload_n 0, 1) := by decide +kernel
theorem dX10_readPart_15 : decode cX10_readPart 15 = .ok (.iconst 0, 1) := by decide +kernel
theorem dX10_readPart_16 : decode cX10_readPart 16 = .ok (.bipush 20, 2) := by decide +kernel
theorem dX10_readPart_18 : decode cX10_readPart 18 = .ok (.invokevirtual 234, 3) := by decide +kernel
theorem dX10_readPart_21 : decode cX10_readPart 21 = .ok (.putfield 238, 3) := by decide +kernel
theorem dX10_readPart_24 : decode cX10_readPart 24 = .ok (.aload_n 0, 1) := by decide +kernel
theorem dX10_readPart_25 : decode cX10_readPart 25 = .ok (.getfield 238, 3) := by decide +kernel
theorem dX10_readPart_28 : decode cX10_readPart 28 = .ok (.ifCond .lt 7, 3) := by decide +kernel
theorem dX10_readPart_31 : decode cX10_readPart 31 = .ok (.iconst 1, 1) := by decide +kernel
theorem dX10_readPart_32 : decode cX10_readPart 32 = .ok (.goto 4, 3) := by decide +kernel
theorem dX10_readPart_35 : decode cX10_readPart 35 = .ok (.iconst 0, 1) := by decide +kernel
theorem dX10_readPart_36 : decode cX10_readPart 36 = .ok (.ireturn, 1) := by decide +kernel
theorem dX10_readPart_37 : decode cX10_readPart 37 = .ok (.aload_n 0, 1) := by decide +kernel
theorem dX10_readPart_38 : decode cX10_readPart 38 = .ok (.ldc 241, 2) := by decide +kernel
theorem dX10_readPart_40 : decode cX10_readPart 40 = .ok (.invokevirtual 230, 3) := by decide +kernel
theorem dX10_readPart_43 : decode cX10_readPart 43 = .ok (.ifCond .ne 5, 3) := by decide +kernel
theorem dX10_readPart_46 : decode cX10_readPart 46 = .ok (.iconst 0, 1) := by decide +kernel
theorem dX10_readPart_47 : decode cX10_readPart 47 = .ok (.ireturn, 1) := by decide +kernel
theorem dX10_readPart_48 : decode cX10_readPart 48 = .ok (.iconst 5, 1) := by decide +kernel
theorem dX10_readPart_49 : decode cX10_readPart 49 = .ok (.aload_n 0, 1) := by decide +kernel
theorem dX10_readPart_50 : decode cX10_readPart 50 = .ok (.getfield 243, 3) := by decide +kernel
theorem dX10_readPart_53 : decode cX10_readPart 53 = .ok (.imul, 1) := by decide +kernel
theorem dX10_readPart_54 : decode cX10_readPart 54 = .ok (.istore_n 1, 1) := by decide +kernel
theorem dX10_readPart_55 : decode cX10_readPart 55 = .ok (.aload_n 0, 1) := by decide +kernel
theorem dX10_readPart_56 : decode cX10_readPart 56 = .ok (.getfield 79, 3) := by decide +kernel
theorem dX10_readPart_59 : decode cX10_readPart 59 = .ok (.iload_n 1, 1) := by decide +kernel
theorem dX10_readPart_60 : decode cX10_readPart 60 = .ok (.aload_n 0, 1) := by decide +kernel
theorem dX10_readPart_61 : decode cX10_readPart 61 = .ok (.iconst 0, 1) := by decide +kernel
theorem dX10_readPart_62 : decode cX10_readPart 62 = .ok (.aload_n 0, 1) := by decide +kernel
theorem dX10_readPart_63 : decode cX10_readPart 63 = .ok (.getfield 130, 3) := by decide +kernel
theorem dX10_readPart_66 : decode cX10_readPart 66 = .ok (.iconst 1, 1) := by decide +kernel
theorem dX10_readPart_67 : decode cX10_readPart 67 = .ok (.isub, 1) := by decide +kernel
theorem dX10_readPart_68 : decode cX10_readPart 68 = .ok (.invokevirtual 234, 3) := by decide +kernel
theorem dX10_readPart_71 : decode cX10_readPart 71 = .ok (.iastore, 1) := by decide +kernel
theorem dX10_readPart_72 : decode cX10_readPart 72 = .ok (.aload_n 0, 1) := by decide +kernel
theorem dX10_readPart_73 : decode cX10_readPart 73 = .ok (.getfield 79, 3) := by decide +kernel
theorem dX10_readPart_76 : decode cX10_readPart 76 = .ok (.iload_n 1, 1) := by decide +kernel
theorem dX10_readPart_77 : decode cX10_readPart 77 = .ok (.iaload, 1) := by decide +kernel
theorem dX10_readPart_78 : decode cX10_readPart 78 = .ok (.ifCond .ge 5, 3) := by decide +kernel
theorem dX10_readPart_81 : decode cX10_readPart 81 = .ok (.iconst 0, 1) := by decide +kernel
theorem dX10_readPart_82 : decode cX10_readPart 82 = .ok (.ireturn, 1) := by decide +kernel
theorem dX10_readPart_83 : decode cX10_readPart 83 = .ok (.aload_n 0, 1) := by decide +kernel
theorem dX10_readPart_84 : decode cX10_readPart 84 = .ok (.getfield 79, 3) := by decide +kernel
theorem dX10_readPart_87 : decode cX10_readPart 87 = .ok (.iload_n 1, 1) := by decide +kernel
theorem dX10_readPart_88 : decode cX10_readPart 88 = .ok (.iconst 1, 1) := by decide +kernel
theorem dX10_readPart_89 : decode cX10_readPart 89 = .ok (.iadd, 1) := by decide +kernel
theorem dX10_readPart_90 : decode cX10_readPart 90 = .ok (.aload_n 0, 1) := by decide +kernel
theorem dX10_readPart_91 : decode cX10_readPart 91 = .ok (.ldc 246, 2) := by decide +kernel
theorem dX10_readPart_93 : decode cX10_readPart 93 = .ok (.iconst 0, 1) := by decide +kernel
theorem dX10_readPart_94 : decode cX10_readPart 94 = .ok (.bipush 7, 2) := by decide +kernel
theorem dX10_readPart_96 : decode cX10_readPart 96 = .ok (.invokevirtual 248, 3) := by decide +kernel
theorem dX10_readPart_99 : decode cX10_readPart 99 = .ok (.iastore, 1) := by decide +kernel
theorem dX10_readPart_100 : decode cX10_readPart 100 = .ok (.aload_n 0, 1) := by decide +kernel
theorem dX10_readPart_101 : decode cX10_readPart 101 = .ok (.getfield 79, 3) := by decide +kernel
theorem dX10_readPart_104 : decode cX10_readPart 104 = .ok (.iload_n 1, 1) := by decide +kernel
theorem dX10_readPart_105 : decode cX10_readPart 105 = .ok (.iconst 1, 1) := by decide +kernel
theorem dX10_readPart_106 : decode cX10_readPart 106 = .ok (.iadd, 1) := by decide +kernel
theorem dX10_readPart_107 : decode cX10_readPart 107 = .ok (.iaload, 1) := by decide +kernel
theorem dX10_readPart_108 : decode cX10_readPart 108 = .ok (.ifCond .ge 5, 3) := by decide +kernel
theorem dX10_readPart_111 : decode cX10_readPart 111 = .ok (.iconst 0, 1) := by decide +kernel
theorem dX10_readPart_112 : decode cX10_readPart 112 = .ok (.ireturn, 1) := by decide +kernel
theorem dX10_readPart_113 : decode cX10_readPart 113 = .ok (.aload_n 0, 1) := by decide +kernel
theorem dX10_readPart_114 : decode cX10_readPart 114 = .ok (.getfield 79, 3) := by decide +kernel
theorem dX10_readPart_117 : decode cX10_readPart 117 = .ok (.iload_n 1, 1) := by decide +kernel
theorem dX10_readPart_118 : decode cX10_readPart 118 = .ok (.iconst 2, 1) := by decide +kernel
theorem dX10_readPart_119 : decode cX10_readPart 119 = .ok (.iadd, 1) := by decide +kernel
theorem dX10_readPart_120 : decode cX10_readPart 120 = .ok (.aload_n 0, 1) := by decide +kernel
theorem dX10_readPart_121 : decode cX10_readPart 121 = .ok (.ldc 252, 2) := by decide +kernel
theorem dX10_readPart_123 : decode cX10_readPart 123 = .ok (.iconst 0, 1) := by decide +kernel
theorem dX10_readPart_124 : decode cX10_readPart 124 = .ok (.bipush 99, 2) := by decide +kernel
theorem dX10_readPart_126 : decode cX10_readPart 126 = .ok (.invokevirtual 248, 3) := by decide +kernel
theorem dX10_readPart_129 : decode cX10_readPart 129 = .ok (.iastore, 1) := by decide +kernel
theorem dX10_readPart_130 : decode cX10_readPart 130 = .ok (.aload_n 0, 1) := by decide +kernel
theorem dX10_readPart_131 : decode cX10_readPart 131 = .ok (.getfield 79, 3) := by decide +kernel
theorem dX10_readPart_134 : decode cX10_readPart 134 = .ok (.iload_n 1, 1) := by decide +kernel
theorem dX10_readPart_135 : decode cX10_readPart 135 = .ok (.iconst 2, 1) := by decide +kernel
theorem dX10_readPart_136 : decode cX10_readPart 136 = .ok (.iadd, 1) := by decide +kernel
theorem dX10_readPart_137 : decode cX10_readPart 137 = .ok (.iaload, 1) := by decide +kernel
theorem dX10_readPart_138 : decode cX10_readPart 138 = .ok (.ifCond .ge 5, 3) := by decide +kernel
theorem dX10_readPart_141 : decode cX10_readPart 141 = .ok (.iconst 0, 1) := by decide +kernel
theorem dX10_readPart_142 : decode cX10_readPart 142 = .ok (.ireturn, 1) := by decide +kernel
theorem dX10_readPart_143 : decode cX10_readPart 143 = .ok (.aload_n 0, 1) := by decide +kernel
theorem dX10_readPart_144 : decode cX10_readPart 144 = .ok (.getfield 79, 3) := by decide +kernel
theorem dX10_readPart_147 : decode cX10_readPart 147 = .ok (.iload_n 1, 1) := by decide +kernel
theorem dX10_readPart_148 : decode cX10_readPart 148 = .ok (.iconst 3, 1) := by decide +kernel
theorem dX10_readPart_149 : decode cX10_readPart 149 = .ok (.iadd, 1) := by decide +kernel
theorem dX10_readPart_150 : decode cX10_readPart 150 = .ok (.aload_n 0, 1) := by decide +kernel
theorem dX10_readPart_151 : decode cX10_readPart 151 = .ok (.ldc 254, 2) := by decide +kernel
theorem dX10_readPart_153 : decode cX10_readPart 153 = .ok (.aload_n 0, 1) := by decide +kernel
theorem dX10_readPart_154 : decode cX10_readPart 154 = .ok (.getfield 79, 3) := by decide +kernel
theorem dX10_readPart_157 : decode cX10_readPart 157 = .ok (.iload_n 1, 1) := by decide +kernel
theorem dX10_readPart_158 : decode cX10_readPart 158 = .ok (.iconst 2, 1) := by decide +kernel
theorem dX10_readPart_159 : decode cX10_readPart 159 = .ok (.iadd, 1) := by decide +kernel
theorem dX10_readPart_160 : decode cX10_readPart 160 = .ok (.iaload, 1) := by decide +kernel
theorem dX10_readPart_161 : decode cX10_readPart 161 = .ok (.bipush 99, 2) := by decide +kernel
theorem dX10_readPart_163 : decode cX10_readPart 163 = .ok (.invokevirtual 248, 3) := by decide +kernel
theorem dX10_readPart_166 : decode cX10_readPart 166 = .ok (.iastore, 1) := by decide +kernel
theorem dX10_readPart_167 : decode cX10_readPart 167 = .ok (.aload_n 0, 1) := by decide +kernel
theorem dX10_readPart_168 : decode cX10_readPart 168 = .ok (.getfield 79, 3) := by decide +kernel
theorem dX10_readPart_171 : decode cX10_readPart 171 = .ok (.iload_n 1, 1) := by decide +kernel
theorem dX10_readPart_172 : decode cX10_readPart 172 = .ok (.iconst 3, 1) := by decide +kernel
theorem dX10_readPart_173 : decode cX10_readPart 173 = .ok (.iadd, 1) := by decide +kernel
theorem dX10_readPart_174 : decode cX10_readPart 174 = .ok (.iaload, 1) := by decide +kernel
theorem dX10_readPart_175 : decode cX10_readPart 175 = .ok (.ifCond .ge 5, 3) := by decide +kernel
theorem dX10_readPart_178 : decode cX10_readPart 178 = .ok (.iconst 0, 1) := by decide +kernel
theorem dX10_readPart_179 : decode cX10_readPart 179 = .ok (.ireturn, 1) := by decide +kernel
theorem dX10_readPart_180 : decode cX10_readPart 180 = .ok (.aload_n 0, 1) := by decide +kernel
theorem dX10_readPart_181 : decode cX10_readPart 181 = .ok (.getfield 79, 3) := by decide +kernel
theorem dX10_readPart_184 : decode cX10_readPart 184 = .ok (.iload_n 1, 1) := by decide +kernel
theorem dX10_readPart_185 : decode cX10_readPart 185 = .ok (.iconst 4, 1) := by decide +kernel
theorem dX10_readPart_186 : decode cX10_readPart 186 = .ok (.iadd, 1) := by decide +kernel
theorem dX10_readPart_187 : decode cX10_readPart 187 = .ok (.aload_n 0, 1) := by decide +kernel
theorem dX10_readPart_188 : decode cX10_readPart 188 = .ok (.ldc_w 256, 3) := by decide +kernel
theorem dX10_readPart_191 : decode cX10_readPart 191 = .ok (.iconst 0, 1) := by decide +kernel
theorem dX10_readPart_192 : decode cX10_readPart 192 = .ok (.bipush 100, 2) := by decide +kernel
theorem dX10_readPart_194 : decode cX10_readPart 194 = .ok (.invokevirtual 248, 3) := by decide +kernel
theorem dX10_readPart_197 : decode cX10_readPart 197 = .ok (.iastore, 1) := by decide +kernel
theorem dX10_readPart_198 : decode cX10_readPart 198 = .ok (.aload_n 0, 1) := by decide +kernel
theorem dX10_readPart_199 : decode cX10_readPart 199 = .ok (.getfield 79, 3) := by decide +kernel
theorem dX10_readPart_202 : decode cX10_readPart 202 = .ok (.iload_n 1, 1) := by decide +kernel
theorem dX10_readPart_203 : decode cX10_readPart 203 = .ok (.iconst 4, 1) := by decide +kernel
theorem dX10_readPart_204 : decode cX10_readPart 204 = .ok (.iadd, 1) := by decide +kernel
theorem dX10_readPart_205 : decode cX10_readPart 205 = .ok (.iaload, 1) := by decide +kernel
theorem dX10_readPart_206 : decode cX10_readPart 206 = .ok (.ifCond .ge 5, 3) := by decide +kernel
theorem dX10_readPart_209 : decode cX10_readPart 209 = .ok (.iconst 0, 1) := by decide +kernel
theorem dX10_readPart_210 : decode cX10_readPart 210 = .ok (.ireturn, 1) := by decide +kernel
theorem dX10_readPart_211 : decode cX10_readPart 211 = .ok (.aload_n 0, 1) := by decide +kernel
theorem dX10_readPart_212 : decode cX10_readPart 212 = .ok (.dup, 1) := by decide +kernel
theorem dX10_readPart_213 : decode cX10_readPart 213 = .ok (.getfield 243, 3) := by decide +kernel
theorem dX10_readPart_216 : decode cX10_readPart 216 = .ok (.iconst 1, 1) := by decide +kernel
theorem dX10_readPart_217 : decode cX10_readPart 217 = .ok (.iadd, 1) := by decide +kernel
theorem dX10_readPart_218 : decode cX10_readPart 218 = .ok (.putfield 243, 3) := by decide +kernel
theorem dX10_readPart_221 : decode cX10_readPart 221 = .ok (.iconst 1, 1) := by decide +kernel
theorem dX10_readPart_222 : decode cX10_readPart 222 = .ok (.ireturn, 1) := by decide +kernel
set_option maxRecDepth 20000 in
theorem ggX10_readAll_X10_readPart : GoodIn wsX10_readAll wsX10_readPart := goodIn_r _ [9, 3, 2, 10, 11, 12, 13, 14, 8, 15, 1, 16, 17, 18, 19, 20, 21, 22, 23, 24, 4, 25, 26, 27, 28, 29, 30, 31, 32, 33, 34, 35, 36, 37, 38, 39, 40, 41, 42, 43, 44, 45, 46, 47, 48, 49, 50, 51, 52, 53, 54, 55, 56, 57, 58, 59, 60, 61, 62, 63, 64, 65, 66, 67, 68, 69, 70, 71, 72, 73, 74, 75, 76, 77, 78, 79, 80, 81, 82, 83, 84, 85, 86, 87, 88, 89, 90, 91, 92, 93, 94, 95, 96, 97, 98, 99, 100, 101, 102, 103, 104, 105, 106, 107, 108, 109, 110, 111, 112, 113, 114, 115, 116, 117, 118, 119, 120, 121, 122, 123, 124, 125, 126, 127, 128, 129, 130, 131, 132, 133, 134, 135, 136, 137, 138, 139] (by decide +kernel) (by decide +kernel)
set_option maxRecDepth 20000 in
theorem gX10_readAll_X10_readPart : GoodIn wsX10_readAll (wsV RX10 258 RX10 yX10_readPart wsX10_readPart) := goodIn_app (goodIn_of _ (by decide +kernel)) ggX10_readAll_X10_readPart
set_option maxRecDepth 20000 in
theorem ggX10_readAll_X10_blanks : GoodIn wsX10_readAll wsX10_blanks := goodIn_r _ [19, 1, 20, 21, 22, 23, 8, 24, 4, 25, 87, 88, 89, 90, 91, 92, 93, 94, 95, 96, 97, 98, 99, 100, 101, 102, 103, 104, 105, 106, 107, 108, 109, 110, 111, 112, 113, 114, 115, 116, 117, 118, 119, 120, 121, 122, 123, 124, 125, 126, 127, 128, 129, 130, 131, 132, 133, 134, 135, 136, 137, 138, 139] (by decide +kernel) (by decide +kernel)
set_option maxRecDepth 20000 in
theorem gX10_readAll_X10_blanks : GoodIn wsX10_readAll (wsV RX10 224 RX10 yX10_blanks wsX10_blanks) := goodIn_app (goodIn_of _ (by decide +kernel)) ggX10_readAll_X10_blanks
set_option maxRecDepth 20000 in
theorem ggX10_readAll_X10_isAt : GoodIn wsX10_readAll wsX10_isAt := goodIn_r _ [24, 1, 4, 25, 87, 88, 89, 90, 91, 92, 93, 94, 95, 96, 97, 98, 99, 100, 101, 102, 103, 104, 105, 106, 107, 108, 109, 110, 111, 112, 113, 114, 115, 116, 117, 118, 119, 120, 121, 122, 123, 124, 125, 126, 127, 128, 129, 130, 131, 132, 133, 134, 135, 136, 137, 138, 139] (by decide +kernel) (by decide +kernel)
set_option maxRecDepth 20000 in
theorem gX10_readAll_X10_isAt : GoodIn wsX10_readAll (wsV RX10 208 RX10 yX10_isAt wsX10_isAt) := goodIn_app (goodIn_of _ (by decide +kernel)) ggX10_readAll_X10_isAt
theorem dX10_readAll_0 : decode cX10_readAll 0 = .ok (.aload_n 0, 1) := by decide +kernel
theorem dX10_readAll_1 : decode cX10_readAll 1 = .ok (.iconst 0, 1) := by decide +kernel
theorem dX10_readAll_2 : decode cX10_readAll 2 = .ok (.putfield 202, 3) := by decide +kernel
theorem dX10_readAll_5 : decode cX10_readAll 5 = .ok (.aload_n 0, 1) := by decide +kernel
theorem dX10_readAll_6 : decode cX10_readAll 6 = .ok (.iconst 0, 1) := by decide +kernel
theorem dX10_readAll_7 : decode cX10_readAll 7 = .ok (.putfield 243, 3) := by decide +kernel
theorem dX10_readAll_10 : decode cX10_readAll 10 = .ok (.aload_n 0, 1) := by decide +kernel
theorem dX10_readAll_11 : decode cX10_readAll 11 = .ok (.iconst 2, 1) := by decide +kernel
theorem dX10_readAll_12 : decode cX10_readAll 12 = .ok (.putfield 238, 3) := by decide +kernel
theorem dX10_readAll_15 : decode cX10_readAll 15 = .ok (.iconst 0, 1) := by decide +kernel
theorem dX10_readAll_16 : decode cX10_readAll 16 = .ok (.istore_n 1, 1) := by decide +kernel
theorem dX10_readAll_17 : decode cX10_readAll 17 = .ok (.aload_n 0, 1) := by decide +kernel
theorem dX10_readAll_18 : decode cX10_readAll 18 = .ok (.invokevirtual 258, 3) := by decide +kernel
theorem dX10_readAll_21 : decode cX10_readAll 21 = .ok (.ifCond .ne 5, 3) := by decide +kernel
theorem dX10_readAll_24 : decode cX10_readAll 24 = .ok (.iconst (-1), 1) := by decide +kernel
theorem dX10_readAll_25 : decode cX10_readAll 25 = .ok (.ireturn, 1) := by decide +kernel
theorem dX10_readAll_26 : decode cX10_readAll 26 = .ok (.iinc 1 1, 3) := by decide +kernel
theorem dX10_readAll_29 : decode cX10_readAll 29 = .ok (.aload_n 0, 1) := by decide +kernel
theorem dX10_readAll_30 : decode cX10_readAll 30 = .ok (.invokevirtual 224, 3) := by decide +kernel
theorem dX10_readAll_33 : decode cX10_readAll 33 = .ok (.aload_n 0, 1) := by decide +kernel
theorem dX10_readAll_34 : decode cX10_readAll 34 = .ok (.getfield 202, 3) := by decide +kernel
theorem dX10_readAll_37 : decode cX10_readAll 37 = .ok (.aload_n 0, 1) := by decide +kernel
theorem dX10_readAll_38 : decode cX10_readAll 38 = .ok (.getfield 205, 3) := by decide +kernel
theorem dX10_readAll_41 : decode cX10_readAll 41 = .ok (.if_icmp .ne 5, 3) := by decide +kernel
theorem dX10_readAll_44 : decode cX10_readAll 44 = .ok (.iload_n 1, 1) := by decide +kernel
theorem dX10_readAll_45 : decode cX10_readAll 45 = .ok (.ireturn, 1) := by decide +kernel
theorem dX10_readAll_46 : decode cX10_readAll 46 = .ok (.aload_n 0, 1) := by decide +kernel
theorem dX10_readAll_47 : decode cX10_readAll 47 = .ok (.bipush 59, 2) := by decide +kernel
theorem dX10_readAll_49 : decode cX10_readAll 49 = .ok (.bipush 59, 2) := by decide +kernel
theorem dX10_readAll_51 : decode cX10_readAll 51 = .ok (.invokevirtual 208, 3) := by decide +kernel
theorem dX10_readAll_54 : decode cX10_readAll 54 = .ok (.ifCond .ne 5, 3) := by decide +kernel
theorem dX10_readAll_57 : decode cX10_readAll 57 = .ok (.iconst (-1), 1) := by decide +kernel
theorem dX10_readAll_58 : decode cX10_readAll 58 = .ok (.ireturn, 1) := by decide +kernel
theorem dX10_readAll_59 : decode cX10_readAll 59 = .ok (.aload_n 0, 1) := by decide +kernel
theorem dX10_readAll_60 : decode cX10_readAll 60 = .ok (.dup, 1) := by decide +kernel
theorem dX10_readAll_61 : decode cX10_readAll 61 = .ok (.getfield 202, 3) := by decide +kernel
theorem dX10_readAll_64 : decode cX10_readAll 64 = .ok (.iconst 1, 1) := by decide +kernel
theorem dX10_readAll_65 : decode cX10_readAll 65 = .ok (.iadd, 1) := by decide +kernel
theorem dX10_readAll_66 : decode cX10_readAll 66 = .ok (.putfield 202, 3) := by decide +kernel
theorem dX10_readAll_69 : decode cX10_readAll 69 = .ok (.goto (-52), 3) := by decide +kernel
set_option maxRecDepth 20000 in
theorem ggX10_rights_X10_readAll : GoodIn wsX10_rights wsX10_readAll := goodIn_r _ [16, 17, 6, 8, 3, 18, 19, 20, 15, 21, 11, 22, 23, 24, 25, 26, 27, 28, 29, 30, 4, 31, 32, 33, 34, 35, 36, 37, 38, 39, 40, 41, 42, 43, 44, 45, 46, 47, 48, 49, 50, 51, 52, 53, 54, 55, 56, 57, 58, 59, 60, 61, 62, 63, 64, 65, 66, 67, 68, 69, 70, 71, 72, 73, 74, 75, 76, 77, 78, 79, 80, 81, 82, 83, 84, 85, 86, 87, 88, 89, 90, 91, 92, 93, 94, 95, 96, 101, 102, 103, 104, 105, 106, 107, 108, 109, 110, 111, 112, 113, 114, 115, 116, 117, 118, 119, 120, 121, 122, 123, 124, 125, 126, 127, 128, 129, 130, 131, 132, 133, 134, 135, 136, 137, 138, 139, 140, 141, 142, 143, 144, 145, 146, 147, 148, 149, 150, 151, 152, 153] (by decide +kernel) (by decide +kernel)
set_option maxRecDepth 20000 in
theorem gX10_rights_X10_readAll : GoodIn wsX10_rights (wsV RX10 262 RX10 yX10_readAll wsX10_readAll) := goodIn_app (goodIn_of _ (by decide +kernel)) ggX10_rights_X10_readAll
set_option maxRecDepth 20000 in
theorem ggX10_rights_X10_throwsIf : GoodIn wsX10_rights wsX10_throwsIf := goodIn_r _ [100, 1, 101, 102, 103, 104, 105, 106, 107, 108, 109, 110, 111, 112, 113, 114, 115, 116, 117, 118, 119, 120, 121, 122, 123, 124, 125, 126, 127, 128, 129, 130, 131, 132, 133, 134, 135, 136, 137, 138, 139, 140, 141, 142, 143, 144, 145, 146, 147, 148, 149, 150, 151, 152, 153] (by decide +kernel) (by decide +kernel)
set_option maxRecDepth 20000 in
theorem gX10_rights_X10_throwsIf : GoodIn wsX10_rights (wsV RX10 141 RX10 yX10_throwsIf wsX10_throwsIf) := goodIn_app (goodIn_of _ (by decide +kernel)) ggX10_rights_X10_throwsIf
theorem dX10_rights_0 : decode cX10_rights 0 = .ok (.aload_n 0, 1) := by decide +kernel
theorem dX10_rights_1 : decode cX10_rights 1 = .ok (.iconst 0, 1) := by decide +kernel
theorem dX10_rights_2 : decode cX10_rights 2 = .ok (.putfield 127, 3) := by decide +kernel
theorem dX10_rights_5 : decode cX10_rights 5 = .ok (.aload_n 0, 1) := by decide +kernel
theorem dX10_rights_6 : decode cX10_rights 6 = .ok (.aload_n 0, 1) := by decide +kernel
theorem dX10_rights_7 : decode cX10_rights 7 = .ok (.getfield 199, 3) := by decide +kernel
theorem dX10_rights_10 : decode cX10_rights 10 = .ok (.putfield 205, 3) := by decide +kernel
theorem dX10_rights_13 : decode cX10_rights 13 = .ok (.aload_n 0, 1) := by decide +kernel
theorem dX10_rights_14 : decode cX10_rights 14 = .ok (.iconst 0, 1) := by decide +kernel
theorem dX10_rights_15 : decode cX10_rights 15 = .ok (.putfield 199, 3) := by decide +kernel
theorem dX10_rights_18 : decode cX10_rights 18 = .ok (.aload_n 0, 1) := by decide +kernel
theorem dX10_rights_19 : decode cX10_rights 19 = .ok (.invokevirtual 262, 3) := by decide +kernel
theorem dX10_rights_22 : decode cX10_rights 22 = .ok (.istore_n 1, 1) := by decide +kernel
theorem dX10_rights_23 : decode cX10_rights 23 = .ok (.aload_n 0, 1) := by decide +kernel
theorem dX10_rights_24 : decode cX10_rights 24 = .ok (.iload_n 1, 1) := by decide +kernel
theorem dX10_rights_25 : decode cX10_rights 25 = .ok (.ifCond .ge 10, 3) := by decide +kernel
theorem dX10_rights_28 : decode cX10_rights 28 = .ok (.aload_n 0, 1) := by decide +kernel
theorem dX10_rights_29 : decode cX10_rights 29 = .ok (.getfield 211, 3) := by decide +kernel
theorem dX10_rights_32 : decode cX10_rights 32 = .ok (.goto 4, 3) := by decide +kernel
theorem dX10_rights_35 : decode cX10_rights 35 = .ok (.iconst (-1), 1) := by decide +kernel
theorem dX10_rights_36 : decode cX10_rights 36 = .ok (.putfield 90, 3) := by decide +kernel
theorem dX10_rights_39 : decode cX10_rights 39 = .ok (.aload_n 0, 1) := by decide +kernel
theorem dX10_rights_40 : decode cX10_rights 40 = .ok (.iload_n 1, 1) := by decide +kernel
theorem dX10_rights_41 : decode cX10_rights 41 = .ok (.ifCond .ge 7, 3) := by decide +kernel
theorem dX10_rights_44 : decode cX10_rights 44 = .ok (.iconst 1, 1) := by decide +kernel
theorem dX10_rights_45 : decode cX10_rights 45 = .ok (.goto 4, 3) := by decide +kernel
theorem dX10_rights_48 : decode cX10_rights 48 = .ok (.iconst 0, 1) := by decide +kernel
theorem dX10_rights_49 : decode cX10_rights 49 = .ok (.iconst 1, 1) := by decide +kernel
theorem dX10_rights_50 : decode cX10_rights 50 = .ok (.invokevirtual 141, 3) := by decide +kernel
theorem dX10_rights_53 : decode cX10_rights 53 = .ok (.ifCond .eq 5, 3) := by decide +kernel
theorem dX10_rights_56 : decode cX10_rights 56 = .ok (.iconst 0, 1) := by decide +kernel
theorem dX10_rights_57 : decode cX10_rights 57 = .ok (.ireturn, 1) := by decide +kernel
theorem dX10_rights_58 : decode cX10_rights 58 = .ok (.aload_n 0, 1) := by decide +kernel
theorem dX10_rights_59 : decode cX10_rights 59 = .ok (.aload_n 0, 1) := by decide +kernel
theorem dX10_rights_60 : decode cX10_rights 60 = .ok (.getfield 243, 3) := by decide +kernel
theorem dX10_rights_63 : decode cX10_rights 63 = .ok (.putfield 172, 3) := by decide +kernel
theorem dX10_rights_66 : decode cX10_rights 66 = .ok (.aload_n 0, 1) := by decide +kernel
theorem dX10_rights_67 : decode cX10_rights 67 = .ok (.aload_n 0, 1) := by decide +kernel
theorem dX10_rights_68 : decode cX10_rights 68 = .ok (.getfield 238, 3) := by decide +kernel
theorem dX10_rights_71 : decode cX10_rights 71 = .ok (.putfield 82, 3) := by decide +kernel
theorem dX10_rights_74 : decode cX10_rights 74 = .ok (.iconst 0, 1) := by decide +kernel
theorem dX10_rights_75 : decode cX10_rights 75 = .ok (.istore_n 2, 1) := by decide +kernel
theorem dX10_rights_76 : decode cX10_rights 76 = .ok (.iload_n 2, 1) := by decide +kernel
theorem dX10_rights_77 : decode cX10_rights 77 = .ok (.iconst 5, 1) := by decide +kernel
theorem dX10_rights_78 : decode cX10_rights 78 = .ok (.aload_n 0, 1) := by decide +kernel
theorem dX10_rights_79 : decode cX10_rights 79 = .ok (.getfield 172, 3) := by decide +kernel
theorem dX10_rights_82 : decode cX10_rights 82 = .ok (.imul, 1) := by decide +kernel
theorem dX10_rights_83 : decode cX10_rights 83 = .ok (.if_icmp .ge 21, 3) := by decide +kernel
theorem dX10_rights_86 : decode cX10_rights 86 = .ok (.aload_n 0, 1) := by decide +kernel
theorem dX10_rights_87 : decode cX10_rights 87 = .ok (.getfield 76, 3) := by decide +kernel
theorem dX10_rights_90 : decode cX10_rights 90 = .ok (.iload_n 2, 1) := by decide +kernel
theorem dX10_rights_91 : decode cX10_rights 91 = .ok (.aload_n 0, 1) := by decide +kernel
theorem dX10_rights_92 : decode cX10_rights 92 = .ok (.getfield 79, 3) := by decide +kernel
theorem dX10_rights_95 : decode cX10_rights 95 = .ok (.iload_n 2, 1) := by decide +kernel
theorem dX10_rights_96 : decode cX10_rights 96 = .ok (.iaload, 1) := by decide +kernel
theorem dX10_rights_97 : decode cX10_rights 97 = .ok (.iastore, 1) := by decide +kernel
theorem dX10_rights_98 : decode cX10_rights 98 = .ok (.iinc 2 1, 3) := by decide +kernel
theorem dX10_rights_101 : decode cX10_rights 101 = .ok (.goto (-25), 3) := by decide +kernel
theorem dX10_rights_104 : decode cX10_rights 104 = .ok (.iload_n 1, 1) := by decide +kernel
theorem dX10_rights_105 : decode cX10_rights 105 = .ok (.ireturn, 1) := by decide +kernel
theorem dX10_fault_0 : decode cX10_fault 0 = .ok (.aload_n 0, 1) := by decide +kernel
theorem dX10_fault_1 : decode cX10_fault 1 = .ok (.iconst 0, 1) := by decide +kernel
theorem dX10_fault_2 : decode cX10_fault 2 = .ok (.putfield 127, 3) := by decide +kernel
theorem dX10_fault_5 : decode cX10_fault 5 = .ok (.aload_n 0, 1) := by decide +kernel
theorem dX10_fault_6 : decode cX10_fault 6 = .ok (.getfield 90, 3) := by decide +kernel
theorem dX10_fault_9 : decode cX10_fault 9 = .ok (.ireturn, 1) := by decide +kernel
theorem dX10_enters_0 : decode cX10_enters 0 = .ok (.aload_n 0, 1) := by decide +kernel
theorem dX10_enters_1 : decode cX10_enters 1 = .ok (.getfield 265, 3) := by decide +kernel
theorem dX10_enters_4 : decode cX10_enters 4 = .ok (.sipush 200, 3) := by decide +kernel
theorem dX10_enters_7 : decode cX10_enters 7 = .ok (.if_icmp .ne 5, 3) := by decide +kernel
theorem dX10_enters_10 : decode cX10_enters 10 = .ok (.iconst (-1), 1) := by decide +kernel
theorem dX10_enters_11 : decode cX10_enters 11 = .ok (.ireturn, 1) := by decide +kernel
theorem dX10_enters_12 : decode cX10_enters 12 = .ok (.aload_n 0, 1) := by decide +kernel
theorem dX10_enters_13 : decode cX10_enters 13 = .ok (.getfield 99, 3) := by decide +kernel
theorem dX10_enters_16 : decode cX10_enters 16 = .ok (.aload_n 0, 1) := by decide +kernel
theorem dX10_enters_17 : decode cX10_enters 17 = .ok (.getfield 265, 3) := by decide +kernel
theorem dX10_enters_20 : decode cX10_enters 20 = .ok (.iload_n 1, 1) := by decide +kernel
theorem dX10_enters_21 : decode cX10_enters 21 = .ok (.iastore, 1) := by decide +kernel
theorem dX10_enters_22 : decode cX10_enters 22 = .ok (.aload_n 0, 1) := by decide +kernel
theorem dX10_enters_23 : decode cX10_enters 23 = .ok (.getfield 102, 3) := by decide +kernel
theorem dX10_enters_26 : decode cX10_enters 26 = .ok (.aload_n 0, 1) := by decide +kernel
theorem dX10_enters_27 : decode cX10_enters 27 = .ok (.getfield 265, 3) := by decide +kernel
theorem dX10_enters_30 : decode cX10_enters 30 = .ok (.iload_n 2, 1) := by decide +kernel
theorem dX10_enters_31 : decode cX10_enters 31 = .ok (.iastore, 1) := by decide +kernel
theorem dX10_enters_32 : decode cX10_enters 32 = .ok (.aload_n 0, 1) := by decide +kernel
theorem dX10_enters_33 : decode cX10_enters 33 = .ok (.getfield 105, 3) := by decide +kernel
theorem dX10_enters_36 : decode cX10_enters 36 = .ok (.aload_n 0, 1) := by decide +kernel
theorem dX10_enters_37 : decode cX10_enters 37 = .ok (.getfield 265, 3) := by decide +kernel
theorem dX10_enters_40 : decode cX10_enters 40 = .ok (.iload_n 3, 1) := by decide +kernel
theorem dX10_enters_41 : decode cX10_enters 41 = .ok (.iastore, 1) := by decide +kernel
theorem dX10_enters_42 : decode cX10_enters 42 = .ok (.aload_n 0, 1) := by decide +kernel
theorem dX10_enters_43 : decode cX10_enters 43 = .ok (.getfield 108, 3) := by decide +kernel
theorem dX10_enters_46 : decode cX10_enters 46 = .ok (.aload_n 0, 1) := by decide +kernel
theorem dX10_enters_47 : decode cX10_enters 47 = .ok (.getfield 265, 3) := by decide +kernel
theorem dX10_enters_50 : decode cX10_enters 50 = .ok (.aload_n 0, 1) := by decide +kernel
theorem dX10_enters_51 : decode cX10_enters 51 = .ok (.getfield 148, 3) := by decide +kernel
theorem dX10_enters_54 : decode cX10_enters 54 = .ok (.iastore, 1) := by decide +kernel
theorem dX10_enters_55 : decode cX10_enters 55 = .ok (.aload_n 0, 1) := by decide +kernel
theorem dX10_enters_56 : decode cX10_enters 56 = .ok (.getfield 111, 3) := by decide +kernel
theorem dX10_enters_59 : decode cX10_enters 59 = .ok (.aload_n 0, 1) := by decide +kernel
theorem dX10_enters_60 : decode cX10_enters 60 = .ok (.getfield 265, 3) := by decide +kernel
theorem dX10_enters_63 : decode cX10_enters 63 = .ok (.iconst (-1), 1) := by decide +kernel
theorem dX10_enters_64 : decode cX10_enters 64 = .ok (.iastore, 1) := by decide +kernel
theorem dX10_enters_65 : decode cX10_enters 65 = .ok (.aload_n 0, 1) := by decide +kernel
theorem dX10_enters_66 : decode cX10_enters 66 = .ok (.dup, 1) := by decide +kernel
theorem dX10_enters_67 : decode cX10_enters 67 = .ok (.getfield 265, 3) := by decide +kernel
theorem dX10_enters_70 : decode cX10_enters 70 = .ok (.iconst 1, 1) := by decide +kernel
theorem dX10_enters_71 : decode cX10_enters 71 = .ok (.iadd, 1) := by decide +kernel
theorem dX10_enters_72 : decode cX10_enters 72 = .ok (.putfield 265, 3) := by decide +kernel
theorem dX10_enters_75 : decode cX10_enters 75 = .ok (.aload_n 0, 1) := by decide +kernel
theorem dX10_enters_76 : decode cX10_enters 76 = .ok (.getfield 265, 3) := by decide +kernel
theorem dX10_enters_79 : decode cX10_enters 79 = .ok (.iconst 1, 1) := by decide +kernel
theorem dX10_enters_80 : decode cX10_enters 80 = .ok (.isub, 1) := by decide +kernel
theorem dX10_enters_81 : decode cX10_enters 81 = .ok (.ireturn, 1) := by decide +kernel
set_option maxRecDepth 20000 in
theorem ggX10_sell_X10_in : GoodIn wsX10_sell wsX10_in := goodIn_r _ [18] (by decide +kernel) (by decide +kernel)
set_option maxRecDepth 20000 in
theorem gX10_sell_X10_in : GoodIn wsX10_sell (va_wsS RX10 133 yX10_in wsX10_in) := goodIn_app (goodIn_of _ (by decide +kernel)) ggX10_sell_X10_in
set_option maxRecDepth 20000 in
theorem ggX10_sell_X10_noFamily : GoodIn wsX10_sell wsX10_noFamily := goodIn_r _ [21, 15, 16, 17, 18] (by decide +kernel) (by decide +kernel)
set_option maxRecDepth 20000 in
theorem gX10_sell_X10_noFamily : GoodIn wsX10_sell (va_wsS RX10 145 yX10_noFamily wsX10_noFamily) := goodIn_app (goodIn_of _ (by decide +kernel)) ggX10_sell_X10_noFamily
set_option maxRecDepth 20000 in
theorem ggX10_sell_X10_throwsIf : GoodIn wsX10_sell wsX10_throwsIf := goodIn_r _ [25, 1, 35, 36, 37, 38, 39, 40, 41, 42, 43, 44, 45, 46, 47, 48, 49, 50, 51, 52, 53, 54, 55, 56, 57, 58, 59, 60, 61, 62, 63, 64, 65, 66, 67, 68, 69, 70, 71, 72, 73, 74, 75, 76, 77, 78, 79, 80, 81, 82, 83, 84, 85, 86, 87] (by decide +kernel) (by decide +kernel)
set_option maxRecDepth 20000 in
theorem gX10_sell_X10_throwsIf : GoodIn wsX10_sell (wsV RX10 141 RX10 yX10_throwsIf wsX10_throwsIf) := goodIn_app (goodIn_of _ (by decide +kernel)) ggX10_sell_X10_throwsIf
set_option maxRecDepth 20000 in
theorem ggX10_sell_X10_enters : GoodIn wsX10_sell wsX10_enters := goodIn_r _ [29, 5, 30, 31, 32, 33, 14, 34, 35, 36, 37, 38, 39, 40, 41, 42, 43, 44, 45, 46, 47, 48, 49, 50, 51, 52, 53, 54, 55, 56, 57, 58, 59, 60, 61, 62, 63, 64, 65, 66, 67, 68, 69, 70, 71, 72, 73, 74, 75, 76, 77, 78, 79, 80, 81, 82, 83, 84, 85, 86, 87] (by decide +kernel) (by decide +kernel)
set_option maxRecDepth 20000 in
theorem gX10_sell_X10_enters : GoodIn wsX10_sell (wsV RX10 274 RX10 yX10_enters wsX10_enters) := goodIn_app (goodIn_of _ (by decide +kernel)) ggX10_sell_X10_enters
theorem dX10_sell_0 : decode cX10_sell 0 = .ok (.aload_n 0, 1) := by decide +kernel
theorem dX10_sell_1 : decode cX10_sell 1 = .ok (.iconst 0, 1) := by decide +kernel
theorem dX10_sell_2 : decode cX10_sell 2 = .ok (.putfield 127, 3) := by decide +kernel
theorem dX10_sell_5 : decode cX10_sell 5 = .ok (.aload_n 0, 1) := by decide +kernel
theorem dX10_sell_6 : decode cX10_sell 6 = .ok (.getfield 93, 3) := by decide +kernel
theorem dX10_sell_9 : decode cX10_sell 9 = .ok (.iconst 0, 1) := by decide +kernel
theorem dX10_sell_10 : decode cX10_sell 10 = .ok (.iload 4, 2) := by decide +kernel
theorem dX10_sell_12 : decode cX10_sell 12 = .ok (.iastore, 1) := by decide +kernel
theorem dX10_sell_13 : decode cX10_sell 13 = .ok (.aload_n 0, 1) := by decide +kernel
theorem dX10_sell_14 : decode cX10_sell 14 = .ok (.getfield 93, 3) := by decide +kernel
theorem dX10_sell_17 : decode cX10_sell 17 = .ok (.iconst 1, 1) := by decide +kernel
theorem dX10_sell_18 : decode cX10_sell 18 = .ok (.iload 5, 2) := by decide +kernel
theorem dX10_sell_20 : decode cX10_sell 20 = .ok (.iastore, 1) := by decide +kernel
theorem dX10_sell_21 : decode cX10_sell 21 = .ok (.aload_n 0, 1) := by decide +kernel
theorem dX10_sell_22 : decode cX10_sell 22 = .ok (.getfield 93, 3) := by decide +kernel
theorem dX10_sell_25 : decode cX10_sell 25 = .ok (.iconst 2, 1) := by decide +kernel
theorem dX10_sell_26 : decode cX10_sell 26 = .ok (.iload 6, 2) := by decide +kernel
theorem dX10_sell_28 : decode cX10_sell 28 = .ok (.iastore, 1) := by decide +kernel
theorem dX10_sell_29 : decode cX10_sell 29 = .ok (.aload_n 0, 1) := by decide +kernel
theorem dX10_sell_30 : decode cX10_sell 30 = .ok (.getfield 93, 3) := by decide +kernel
theorem dX10_sell_33 : decode cX10_sell 33 = .ok (.iconst 3, 1) := by decide +kernel
theorem dX10_sell_34 : decode cX10_sell 34 = .ok (.iload 7, 2) := by decide +kernel
theorem dX10_sell_36 : decode cX10_sell 36 = .ok (.iastore, 1) := by decide +kernel
theorem dX10_sell_37 : decode cX10_sell 37 = .ok (.aload_n 0, 1) := by decide +kernel
theorem dX10_sell_38 : decode cX10_sell 38 = .ok (.getfield 93, 3) := by decide +kernel
theorem dX10_sell_41 : decode cX10_sell 41 = .ok (.iconst 4, 1) := by decide +kernel
theorem dX10_sell_42 : decode cX10_sell 42 = .ok (.iload 8, 2) := by decide +kernel
theorem dX10_sell_44 : decode cX10_sell 44 = .ok (.iastore, 1) := by decide +kernel
theorem dX10_sell_45 : decode cX10_sell 45 = .ok (.iload_n 2, 1) := by decide +kernel
theorem dX10_sell_46 : decode cX10_sell 46 = .ok (.iconst 1, 1) := by decide +kernel
theorem dX10_sell_47 : decode cX10_sell 47 = .ok (.sipush 1000, 3) := by decide +kernel
theorem dX10_sell_50 : decode cX10_sell 50 = .ok (.invokestatic 133, 3) := by decide +kernel
theorem dX10_sell_53 : decode cX10_sell 53 = .ok (.ifCond .eq 16, 3) := by decide +kernel
theorem dX10_sell_56 : decode cX10_sell 56 = .ok (.iload_n 3, 1) := by decide +kernel
theorem dX10_sell_57 : decode cX10_sell 57 = .ok (.iconst 3, 1) := by decide +kernel
theorem dX10_sell_58 : decode cX10_sell 58 = .ok (.iconst 5, 1) := by decide +kernel
theorem dX10_sell_59 : decode cX10_sell 59 = .ok (.invokestatic 133, 3) := by decide +kernel
theorem dX10_sell_62 : decode cX10_sell 62 = .ok (.ifCond .eq 7, 3) := by decide +kernel
theorem dX10_sell_65 : decode cX10_sell 65 = .ok (.iconst 1, 1) := by decide +kernel
theorem dX10_sell_66 : decode cX10_sell 66 = .ok (.goto 4, 3) := by decide +kernel
theorem dX10_sell_69 : decode cX10_sell 69 = .ok (.iconst 0, 1) := by decide +kernel
theorem dX10_sell_70 : decode cX10_sell 70 = .ok (.istore 9, 2) := by decide +kernel
theorem dX10_sell_72 : decode cX10_sell 72 = .ok (.iconst 0, 1) := by decide +kernel
theorem dX10_sell_73 : decode cX10_sell 73 = .ok (.istore 10, 2) := by decide +kernel
theorem dX10_sell_75 : decode cX10_sell 75 = .ok (.iload 9, 2) := by decide +kernel
theorem dX10_sell_77 : decode cX10_sell 77 = .ok (.ifCond .eq 30, 3) := by decide +kernel
theorem dX10_sell_80 : decode cX10_sell 80 = .ok (.iload 10, 2) := by decide +kernel
theorem dX10_sell_82 : decode cX10_sell 82 = .ok (.iload_n 3, 1) := by decide +kernel
theorem dX10_sell_83 : decode cX10_sell 83 = .ok (.if_icmp .ge 24, 3) := by decide +kernel
theorem dX10_sell_86 : decode cX10_sell 86 = .ok (.aload_n 0, 1) := by decide +kernel
theorem dX10_sell_87 : decode cX10_sell 87 = .ok (.getfield 93, 3) := by decide +kernel
theorem dX10_sell_90 : decode cX10_sell 90 = .ok (.iload 10, 2) := by decide +kernel
theorem dX10_sell_92 : decode cX10_sell 92 = .ok (.iaload, 1) := by decide +kernel
theorem dX10_sell_93 : decode cX10_sell 93 = .ok (.iconst 0, 1) := by decide +kernel
theorem dX10_sell_94 : decode cX10_sell 94 = .ok (.bipush 99, 2) := by decide +kernel
theorem dX10_sell_96 : decode cX10_sell 96 = .ok (.invokestatic 133, 3) := by decide +kernel
theorem dX10_sell_99 : decode cX10_sell 99 = .ok (.istore 9, 2) := by decide +kernel
theorem dX10_sell_101 : decode cX10_sell 101 = .ok (.iinc 10 1, 3) := by decide +kernel
theorem dX10_sell_104 : decode cX10_sell 104 = .ok (.goto (-29), 3) := by decide +kernel
theorem dX10_sell_107 : decode cX10_sell 107 = .ok (.aload_n 0, 1) := by decide +kernel
theorem dX10_sell_108 : decode cX10_sell 108 = .ok (.iload_n 1, 1) := by decide +kernel
theorem dX10_sell_109 : decode cX10_sell 109 = .ok (.invokestatic 145, 3) := by decide +kernel
theorem dX10_sell_112 : decode cX10_sell 112 = .ok (.iconst 1, 1) := by decide +kernel
theorem dX10_sell_113 : decode cX10_sell 113 = .ok (.invokevirtual 141, 3) := by decide +kernel
theorem dX10_sell_116 : decode cX10_sell 116 = .ok (.ifCond .ne 21, 3) := by decide +kernel
theorem dX10_sell_119 : decode cX10_sell 119 = .ok (.aload_n 0, 1) := by decide +kernel
theorem dX10_sell_120 : decode cX10_sell 120 = .ok (.iload 9, 2) := by decide +kernel
theorem dX10_sell_122 : decode cX10_sell 122 = .ok (.ifCond .ne 7, 3) := by decide +kernel
theorem dX10_sell_125 : decode cX10_sell 125 = .ok (.iconst 1, 1) := by decide +kernel
theorem dX10_sell_126 : decode cX10_sell 126 = .ok (.goto 4, 3) := by decide +kernel
theorem dX10_sell_129 : decode cX10_sell 129 = .ok (.iconst 0, 1) := by decide +kernel
theorem dX10_sell_130 : decode cX10_sell 130 = .ok (.iconst 2, 1) := by decide +kernel
theorem dX10_sell_131 : decode cX10_sell 131 = .ok (.invokevirtual 141, 3) := by decide +kernel
theorem dX10_sell_134 : decode cX10_sell 134 = .ok (.ifCond .eq 5, 3) := by decide +kernel
theorem dX10_sell_137 : decode cX10_sell 137 = .ok (.iconst 0, 1) := by decide +kernel
theorem dX10_sell_138 : decode cX10_sell 138 = .ok (.ireturn, 1) := by decide +kernel
theorem dX10_sell_139 : decode cX10_sell 139 = .ok (.aload_n 0, 1) := by decide +kernel
theorem dX10_sell_140 : decode cX10_sell 140 = .ok (.getfield 52, 3) := by decide +kernel
theorem dX10_sell_143 : decode cX10_sell 143 = .ok (.iload_n 1, 1) := by decide +kernel
theorem dX10_sell_144 : decode cX10_sell 144 = .ok (.iaload, 1) := by decide +kernel
theorem dX10_sell_145 : decode cX10_sell 145 = .ok (.iload_n 2, 1) := by decide +kernel
theorem dX10_sell_146 : decode cX10_sell 146 = .ok (.if_icmp .lt 22, 3) := by decide +kernel
theorem dX10_sell_149 : decode cX10_sell 149 = .ok (.aload_n 0, 1) := by decide +kernel
theorem dX10_sell_150 : decode cX10_sell 150 = .ok (.getfield 268, 3) := by decide +kernel
theorem dX10_sell_153 : decode cX10_sell 153 = .ok (.bipush 60, 2) := by decide +kernel
theorem dX10_sell_155 : decode cX10_sell 155 = .ok (.if_icmp .eq 13, 3) := by decide +kernel
theorem dX10_sell_158 : decode cX10_sell 158 = .ok (.aload_n 0, 1) := by decide +kernel
theorem dX10_sell_159 : decode cX10_sell 159 = .ok (.getfield 265, 3) := by decide +kernel
theorem dX10_sell_162 : decode cX10_sell 162 = .ok (.sipush 200, 3) := by decide +kernel
theorem dX10_sell_165 : decode cX10_sell 165 = .ok (.if_icmp .ne 5, 3) := by decide +kernel
theorem dX10_sell_168 : decode cX10_sell 168 = .ok (.iconst (-1), 1) := by decide +kernel
theorem dX10_sell_169 : decode cX10_sell 169 = .ok (.ireturn, 1) := by decide +kernel
theorem dX10_sell_170 : decode cX10_sell 170 = .ok (.bipush 100, 2) := by decide +kernel
theorem dX10_sell_172 : decode cX10_sell 172 = .ok (.istore 10, 2) := by decide +kernel
theorem dX10_sell_174 : decode cX10_sell 174 = .ok (.iconst 0, 1) := by decide +kernel
theorem dX10_sell_175 : decode cX10_sell 175 = .ok (.istore 11, 2) := by decide +kernel
theorem dX10_sell_177 : decode cX10_sell 177 = .ok (.iconst 0, 1) := by decide +kernel
theorem dX10_sell_178 : decode cX10_sell 178 = .ok (.istore 12, 2) := by decide +kernel
theorem dX10_sell_180 : decode cX10_sell 180 = .ok (.iconst 0, 1) := by decide +kernel
theorem dX10_sell_181 : decode cX10_sell 181 = .ok (.istore 13, 2) := by decide +kernel
theorem dX10_sell_183 : decode cX10_sell 183 = .ok (.iload 13, 2) := by decide +kernel
theorem dX10_sell_185 : decode cX10_sell 185 = .ok (.iload_n 3, 1) := by decide +kernel
theorem dX10_sell_186 : decode cX10_sell 186 = .ok (.if_icmp .ge 125, 3) := by decide +kernel
theorem dX10_sell_189 : decode cX10_sell 189 = .ok (.iload 10, 2) := by decide +kernel
theorem dX10_sell_191 : decode cX10_sell 191 = .ok (.aload_n 0, 1) := by decide +kernel
theorem dX10_sell_192 : decode cX10_sell 192 = .ok (.getfield 93, 3) := by decide +kernel
theorem dX10_sell_195 : decode cX10_sell 195 = .ok (.iload 13, 2) := by decide +kernel
theorem dX10_sell_197 : decode cX10_sell 197 = .ok (.iaload, 1) := by decide +kernel
theorem dX10_sell_198 : decode cX10_sell 198 = .ok (.invokestatic 271, 3) := by decide +kernel
theorem dX10_sell_201 : decode cX10_sell 201 = .ok (.istore 10, 2) := by decide +kernel
theorem dX10_sell_203 : decode cX10_sell 203 = .ok (.iload 11, 2) := by decide +kernel
theorem dX10_sell_205 : decode cX10_sell 205 = .ok (.aload_n 0, 1) := by decide +kernel
theorem dX10_sell_206 : decode cX10_sell 206 = .ok (.getfield 93, 3) := by decide +kernel
theorem dX10_sell_209 : decode cX10_sell 209 = .ok (.iload 13, 2) := by decide +kernel
theorem dX10_sell_211 : decode cX10_sell 211 = .ok (.iaload, 1) := by decide +kernel
theorem dX10_sell_212 : decode cX10_sell 212 = .ok (.invokestatic 179, 3) := by decide +kernel
theorem dX10_sell_215 : decode cX10_sell 215 = .ok (.istore 11, 2) := by decide +kernel
theorem dX10_sell_217 : decode cX10_sell 217 = .ok (.iconst 0, 1) := by decide +kernel
theorem dX10_sell_218 : decode cX10_sell 218 = .ok (.istore 14, 2) := by decide +kernel
theorem dX10_sell_220 : decode cX10_sell 220 = .ok (.iconst 0, 1) := by decide +kernel
theorem dX10_sell_221 : decode cX10_sell 221 = .ok (.istore 15, 2) := by decide +kernel
theorem dX10_sell_223 : decode cX10_sell 223 = .ok (.iload 15, 2) := by decide +kernel
theorem dX10_sell_225 : decode cX10_sell 225 = .ok (.iload_n 3, 1) := by decide +kernel
theorem dX10_sell_226 : decode cX10_sell 226 = .ok (.if_icmp .ge 60, 3) := by decide +kernel
theorem dX10_sell_229 : decode cX10_sell 229 = .ok (.iload 14, 2) := by decide +kernel
theorem dX10_sell_231 : decode cX10_sell 231 = .ok (.aload_n 0, 1) := by decide +kernel
theorem dX10_sell_232 : decode cX10_sell 232 = .ok (.getfield 93, 3) := by decide +kernel
theorem dX10_sell_235 : decode cX10_sell 235 = .ok (.iload 15, 2) := by decide +kernel
theorem dX10_sell_237 : decode cX10_sell 237 = .ok (.iaload, 1) := by decide +kernel
theorem dX10_sell_238 : decode cX10_sell 238 = .ok (.aload_n 0, 1) := by decide +kernel
theorem dX10_sell_239 : decode cX10_sell 239 = .ok (.getfield 93, 3) := by decide +kernel
theorem dX10_sell_242 : decode cX10_sell 242 = .ok (.iload 13, 2) := by decide +kernel
theorem dX10_sell_244 : decode cX10_sell 244 = .ok (.iaload, 1) := by decide +kernel
theorem dX10_sell_245 : decode cX10_sell 245 = .ok (.if_icmp .lt 27, 3) := by decide +kernel
theorem dX10_sell_248 : decode cX10_sell 248 = .ok (.aload_n 0, 1) := by decide +kernel
theorem dX10_sell_249 : decode cX10_sell 249 = .ok (.getfield 93, 3) := by decide +kernel
theorem dX10_sell_252 : decode cX10_sell 252 = .ok (.iload 15, 2) := by decide +kernel
theorem dX10_sell_254 : decode cX10_sell 254 = .ok (.iaload, 1) := by decide +kernel
theorem dX10_sell_255 : decode cX10_sell 255 = .ok (.aload_n 0, 1) := by decide +kernel
theorem dX10_sell_256 : decode cX10_sell 256 = .ok (.getfield 93, 3) := by decide +kernel
theorem dX10_sell_259 : decode cX10_sell 259 = .ok (.iload 13, 2) := by decide +kernel
theorem dX10_sell_261 : decode cX10_sell 261 = .ok (.iaload, 1) := by decide +kernel
theorem dX10_sell_262 : decode cX10_sell 262 = .ok (.if_icmp .ne 14, 3) := by decide +kernel
theorem dX10_sell_265 : decode cX10_sell 265 = .ok (.iload 15, 2) := by decide +kernel
theorem dX10_sell_267 : decode cX10_sell 267 = .ok (.iload 13, 2) := by decide +kernel
theorem dX10_sell_269 : decode cX10_sell 269 = .ok (.if_icmp .ge 7, 3) := by decide +kernel
theorem dX10_sell_272 : decode cX10_sell 272 = .ok (.iconst 1, 1) := by decide +kernel
theorem dX10_sell_273 : decode cX10_sell 273 = .ok (.goto 4, 3) := by decide +kernel
theorem dX10_sell_276 : decode cX10_sell 276 = .ok (.iconst 0, 1) := by decide +kernel
theorem dX10_sell_277 : decode cX10_sell 277 = .ok (.iadd, 1) := by decide +kernel
theorem dX10_sell_278 : decode cX10_sell 278 = .ok (.istore 14, 2) := by decide +kernel
theorem dX10_sell_280 : decode cX10_sell 280 = .ok (.iinc 15 1, 3) := by decide +kernel
theorem dX10_sell_283 : decode cX10_sell 283 = .ok (.goto (-60), 3) := by decide +kernel
theorem dX10_sell_286 : decode cX10_sell 286 = .ok (.iload 14, 2) := by decide +kernel
theorem dX10_sell_288 : decode cX10_sell 288 = .ok (.iload_n 3, 1) := by decide +kernel
theorem dX10_sell_289 : decode cX10_sell 289 = .ok (.iconst 1, 1) := by decide +kernel
theorem dX10_sell_290 : decode cX10_sell 290 = .ok (.isub, 1) := by decide +kernel
theorem dX10_sell_291 : decode cX10_sell 291 = .ok (.iconst 2, 1) := by decide +kernel
theorem dX10_sell_292 : decode cX10_sell 292 = .ok (.idiv, 1) := by decide +kernel
theorem dX10_sell_293 : decode cX10_sell 293 = .ok (.if_icmp .ne 12, 3) := by decide +kernel
theorem dX10_sell_296 : decode cX10_sell 296 = .ok (.aload_n 0, 1) := by decide +kernel
theorem dX10_sell_297 : decode cX10_sell 297 = .ok (.getfield 93, 3) := by decide +kernel
theorem dX10_sell_300 : decode cX10_sell 300 = .ok (.iload 13, 2) := by decide +kernel
theorem dX10_sell_302 : decode cX10_sell 302 = .ok (.iaload, 1) := by decide +kernel
theorem dX10_sell_303 : decode cX10_sell 303 = .ok (.istore 12, 2) := by decide +kernel
theorem dX10_sell_305 : decode cX10_sell 305 = .ok (.iinc 13 1, 3) := by decide +kernel
theorem dX10_sell_308 : decode cX10_sell 308 = .ok (.goto (-125), 3) := by decide +kernel
theorem dX10_sell_311 : decode cX10_sell 311 = .ok (.bipush 6, 2) := by decide +kernel
theorem dX10_sell_313 : decode cX10_sell 313 = .ok (.aload_n 0, 1) := by decide +kernel
theorem dX10_sell_314 : decode cX10_sell 314 = .ok (.getfield 268, 3) := by decide +kernel
theorem dX10_sell_317 : decode cX10_sell 317 = .ok (.imul, 1) := by decide +kernel
theorem dX10_sell_318 : decode cX10_sell 318 = .ok (.istore 13, 2) := by decide +kernel
theorem dX10_sell_320 : decode cX10_sell 320 = .ok (.aload_n 0, 1) := by decide +kernel
theorem dX10_sell_321 : decode cX10_sell 321 = .ok (.getfield 96, 3) := by decide +kernel
theorem dX10_sell_324 : decode cX10_sell 324 = .ok (.iload 13, 2) := by decide +kernel
theorem dX10_sell_326 : decode cX10_sell 326 = .ok (.iload_n 1, 1) := by decide +kernel
theorem dX10_sell_327 : decode cX10_sell 327 = .ok (.iastore, 1) := by decide +kernel
theorem dX10_sell_328 : decode cX10_sell 328 = .ok (.aload_n 0, 1) := by decide +kernel
theorem dX10_sell_329 : decode cX10_sell 329 = .ok (.getfield 96, 3) := by decide +kernel
theorem dX10_sell_332 : decode cX10_sell 332 = .ok (.iload 13, 2) := by decide +kernel
theorem dX10_sell_334 : decode cX10_sell 334 = .ok (.iconst 1, 1) := by decide +kernel
theorem dX10_sell_335 : decode cX10_sell 335 = .ok (.iadd, 1) := by decide +kernel
theorem dX10_sell_336 : decode cX10_sell 336 = .ok (.iload_n 2, 1) := by decide +kernel
theorem dX10_sell_337 : decode cX10_sell 337 = .ok (.iastore, 1) := by decide +kernel
theorem dX10_sell_338 : decode cX10_sell 338 = .ok (.aload_n 0, 1) := by decide +kernel
theorem dX10_sell_339 : decode cX10_sell 339 = .ok (.getfield 96, 3) := by decide +kernel
theorem dX10_sell_342 : decode cX10_sell 342 = .ok (.iload 13, 2) := by decide +kernel
theorem dX10_sell_344 : decode cX10_sell 344 = .ok (.iconst 3, 1) := by decide +kernel
theorem dX10_sell_345 : decode cX10_sell 345 = .ok (.iadd, 1) := by decide +kernel
theorem dX10_sell_346 : decode cX10_sell 346 = .ok (.iload 11, 2) := by decide +kernel
theorem dX10_sell_348 : decode cX10_sell 348 = .ok (.iload 10, 2) := by decide +kernel
theorem dX10_sell_350 : decode cX10_sell 350 = .ok (.isub, 1) := by decide +kernel
theorem dX10_sell_351 : decode cX10_sell 351 = .ok (.bipush 20, 2) := by decide +kernel
theorem dX10_sell_353 : decode cX10_sell 353 = .ok (.if_icmp .le 7, 3) := by decide +kernel
theorem dX10_sell_356 : decode cX10_sell 356 = .ok (.iconst 1, 1) := by decide +kernel
theorem dX10_sell_357 : decode cX10_sell 357 = .ok (.goto 4, 3) := by decide +kernel
theorem dX10_sell_360 : decode cX10_sell 360 = .ok (.iconst 0, 1) := by decide +kernel
theorem dX10_sell_361 : decode cX10_sell 361 = .ok (.iastore, 1) := by decide +kernel
theorem dX10_sell_362 : decode cX10_sell 362 = .ok (.aload_n 0, 1) := by decide +kernel
theorem dX10_sell_363 : decode cX10_sell 363 = .ok (.getfield 96, 3) := by decide +kernel
theorem dX10_sell_366 : decode cX10_sell 366 = .ok (.iload 13, 2) := by decide +kernel
theorem dX10_sell_368 : decode cX10_sell 368 = .ok (.iconst 2, 1) := by decide +kernel
theorem dX10_sell_369 : decode cX10_sell 369 = .ok (.iadd, 1) := by decide +kernel
theorem dX10_sell_370 : decode cX10_sell 370 = .ok (.aload_n 0, 1) := by decide +kernel
theorem dX10_sell_371 : decode cX10_sell 371 = .ok (.getfield 96, 3) := by decide +kernel
theorem dX10_sell_374 : decode cX10_sell 374 = .ok (.iload 13, 2) := by decide +kernel
theorem dX10_sell_376 : decode cX10_sell 376 = .ok (.iconst 3, 1) := by decide +kernel
theorem dX10_sell_377 : decode cX10_sell 377 = .ok (.iadd, 1) := by decide +kernel
theorem dX10_sell_378 : decode cX10_sell 378 = .ok (.iaload, 1) := by decide +kernel
theorem dX10_sell_379 : decode cX10_sell 379 = .ok (.iconst 1, 1) := by decide +kernel
theorem dX10_sell_380 : decode cX10_sell 380 = .ok (.if_icmp .ne 8, 3) := by decide +kernel
theorem dX10_sell_383 : decode cX10_sell 383 = .ok (.iload 10, 2) := by decide +kernel
theorem dX10_sell_385 : decode cX10_sell 385 = .ok (.goto 5, 3) := by decide +kernel
theorem dX10_sell_388 : decode cX10_sell 388 = .ok (.iload 12, 2) := by decide +kernel
theorem dX10_sell_390 : decode cX10_sell 390 = .ok (.iastore, 1) := by decide +kernel
theorem dX10_sell_391 : decode cX10_sell 391 = .ok (.aload_n 0, 1) := by decide +kernel
theorem dX10_sell_392 : decode cX10_sell 392 = .ok (.getfield 96, 3) := by decide +kernel
theorem dX10_sell_395 : decode cX10_sell 395 = .ok (.iload 13, 2) := by decide +kernel
theorem dX10_sell_397 : decode cX10_sell 397 = .ok (.iconst 4, 1) := by decide +kernel
theorem dX10_sell_398 : decode cX10_sell 398 = .ok (.iadd, 1) := by decide +kernel
theorem dX10_sell_399 : decode cX10_sell 399 = .ok (.iload_n 2, 1) := by decide +kernel
theorem dX10_sell_400 : decode cX10_sell 400 = .ok (.aload_n 0, 1) := by decide +kernel
theorem dX10_sell_401 : decode cX10_sell 401 = .ok (.getfield 96, 3) := by decide +kernel
theorem dX10_sell_404 : decode cX10_sell 404 = .ok (.iload 13, 2) := by decide +kernel
theorem dX10_sell_406 : decode cX10_sell 406 = .ok (.iconst 2, 1) := by decide +kernel
theorem dX10_sell_407 : decode cX10_sell 407 = .ok (.iadd, 1) := by decide +kernel
theorem dX10_sell_408 : decode cX10_sell 408 = .ok (.iaload, 1) := by decide +kernel
theorem dX10_sell_409 : decode cX10_sell 409 = .ok (.imul, 1) := by decide +kernel
theorem dX10_sell_410 : decode cX10_sell 410 = .ok (.iastore, 1) := by decide +kernel
theorem dX10_sell_411 : decode cX10_sell 411 = .ok (.aload_n 0, 1) := by decide +kernel
theorem dX10_sell_412 : decode cX10_sell 412 = .ok (.getfield 96, 3) := by decide +kernel
theorem dX10_sell_415 : decode cX10_sell 415 = .ok (.iload 13, 2) := by decide +kernel
theorem dX10_sell_417 : decode cX10_sell 417 = .ok (.iconst 5, 1) := by decide +kernel
theorem dX10_sell_418 : decode cX10_sell 418 = .ok (.iadd, 1) := by decide +kernel
theorem dX10_sell_419 : decode cX10_sell 419 = .ok (.aload_n 0, 1) := by decide +kernel
theorem dX10_sell_420 : decode cX10_sell 420 = .ok (.iload_n 1, 1) := by decide +kernel
theorem dX10_sell_421 : decode cX10_sell 421 = .ok (.aload_n 0, 1) := by decide +kernel
theorem dX10_sell_422 : decode cX10_sell 422 = .ok (.getfield 96, 3) := by decide +kernel
theorem dX10_sell_425 : decode cX10_sell 425 = .ok (.iload 13, 2) := by decide +kernel
theorem dX10_sell_427 : decode cX10_sell 427 = .ok (.iconst 4, 1) := by decide +kernel
theorem dX10_sell_428 : decode cX10_sell 428 = .ok (.iadd, 1) := by decide +kernel
theorem dX10_sell_429 : decode cX10_sell 429 = .ok (.iaload, 1) := by decide +kernel
theorem dX10_sell_430 : decode cX10_sell 430 = .ok (.aload_n 0, 1) := by decide +kernel
theorem dX10_sell_431 : decode cX10_sell 431 = .ok (.getfield 148, 3) := by decide +kernel
theorem dX10_sell_434 : decode cX10_sell 434 = .ok (.invokevirtual 274, 3) := by decide +kernel
theorem dX10_sell_437 : decode cX10_sell 437 = .ok (.iastore, 1) := by decide +kernel
theorem dX10_sell_438 : decode cX10_sell 438 = .ok (.aload_n 0, 1) := by decide +kernel
theorem dX10_sell_439 : decode cX10_sell 439 = .ok (.getfield 52, 3) := by decide +kernel
theorem dX10_sell_442 : decode cX10_sell 442 = .ok (.iload_n 1, 1) := by decide +kernel
theorem dX10_sell_443 : decode cX10_sell 443 = .ok (.dup2, 1) := by decide +kernel
theorem dX10_sell_444 : decode cX10_sell 444 = .ok (.iaload, 1) := by decide +kernel
theorem dX10_sell_445 : decode cX10_sell 445 = .ok (.iload_n 2, 1) := by decide +kernel
theorem dX10_sell_446 : decode cX10_sell 446 = .ok (.isub, 1) := by decide +kernel
theorem dX10_sell_447 : decode cX10_sell 447 = .ok (.iastore, 1) := by decide +kernel
theorem dX10_sell_448 : decode cX10_sell 448 = .ok (.aload_n 0, 1) := by decide +kernel
theorem dX10_sell_449 : decode cX10_sell 449 = .ok (.dup, 1) := by decide +kernel
theorem dX10_sell_450 : decode cX10_sell 450 = .ok (.getfield 268, 3) := by decide +kernel
theorem dX10_sell_453 : decode cX10_sell 453 = .ok (.iconst 1, 1) := by decide +kernel
theorem dX10_sell_454 : decode cX10_sell 454 = .ok (.iadd, 1) := by decide +kernel
theorem dX10_sell_455 : decode cX10_sell 455 = .ok (.putfield 268, 3) := by decide +kernel
theorem dX10_sell_458 : decode cX10_sell 458 = .ok (.aload_n 0, 1) := by decide +kernel
theorem dX10_sell_459 : decode cX10_sell 459 = .ok (.getfield 268, 3) := by decide +kernel
theorem dX10_sell_462 : decode cX10_sell 462 = .ok (.iconst 1, 1) := by decide +kernel
theorem dX10_sell_463 : decode cX10_sell 463 = .ok (.isub, 1) := by decide +kernel
theorem dX10_sell_464 : decode cX10_sell 464 = .ok (.ireturn, 1) := by decide +kernel
set_option maxRecDepth 20000 in
theorem ggX10_lot_X10_in : GoodIn wsX10_lot wsX10_in := goodIn_r _ [7] (by decide +kernel) (by decide +kernel)
set_option maxRecDepth 20000 in
theorem gX10_lot_X10_in : GoodIn wsX10_lot (va_wsS RX10 133 yX10_in wsX10_in) := goodIn_app (goodIn_of _ (by decide +kernel)) ggX10_lot_X10_in
set_option maxRecDepth 20000 in
theorem ggX10_lot_X10_throwsIf : GoodIn wsX10_lot wsX10_throwsIf := goodIn_r _ [11, 1, 12, 13, 14, 15, 16, 17, 18, 19, 20, 21, 22, 23, 24, 25, 26, 27, 28, 29, 30, 31, 32, 33, 34, 35, 36, 37, 38, 39, 40, 41, 42, 43, 44, 45, 46, 47, 48, 49, 50, 51, 52, 53, 54, 55, 56, 57, 58, 59, 60, 61, 62, 63, 64] (by decide +kernel) (by decide +kernel)
set_option maxRecDepth 20000 in
theorem gX10_lot_X10_throwsIf : GoodIn wsX10_lot (wsV RX10 141 RX10 yX10_throwsIf wsX10_throwsIf) := goodIn_app (goodIn_of _ (by decide +kernel)) ggX10_lot_X10_throwsIf
theorem dX10_lot_0 : decode cX10_lot 0 = .ok (.aload_n 0, 1) := by decide +kernel
theorem dX10_lot_1 : decode cX10_lot 1 = .ok (.iconst 0, 1) := by decide +kernel
theorem dX10_lot_2 : decode cX10_lot 2 = .ok (.putfield 127, 3) := by decide +kernel
theorem dX10_lot_5 : decode cX10_lot 5 = .ok (.aload_n 0, 1) := by decide +kernel
theorem dX10_lot_6 : decode cX10_lot 6 = .ok (.iload_n 1, 1) := by decide +kernel
theorem dX10_lot_7 : decode cX10_lot 7 = .ok (.iconst 0, 1) := by decide +kernel
theorem dX10_lot_8 : decode cX10_lot 8 = .ok (.aload_n 0, 1) := by decide +kernel
theorem dX10_lot_9 : decode cX10_lot 9 = .ok (.getfield 268, 3) := by decide +kernel
theorem dX10_lot_12 : decode cX10_lot 12 = .ok (.iconst 1, 1) := by decide +kernel
theorem dX10_lot_13 : decode cX10_lot 13 = .ok (.isub, 1) := by decide +kernel
theorem dX10_lot_14 : decode cX10_lot 14 = .ok (.invokestatic 133, 3) := by decide +kernel
theorem dX10_lot_17 : decode cX10_lot 17 = .ok (.ifCond .ne 7, 3) := by decide +kernel
theorem dX10_lot_20 : decode cX10_lot 20 = .ok (.iconst 1, 1) := by decide +kernel
theorem dX10_lot_21 : decode cX10_lot 21 = .ok (.goto 4, 3) := by decide +kernel
theorem dX10_lot_24 : decode cX10_lot 24 = .ok (.iconst 0, 1) := by decide +kernel
theorem dX10_lot_25 : decode cX10_lot 25 = .ok (.iconst 1, 1) := by decide +kernel
theorem dX10_lot_26 : decode cX10_lot 26 = .ok (.invokevirtual 141, 3) := by decide +kernel
theorem dX10_lot_29 : decode cX10_lot 29 = .ok (.ifCond .ne 25, 3) := by decide +kernel
theorem dX10_lot_32 : decode cX10_lot 32 = .ok (.aload_n 0, 1) := by decide +kernel
theorem dX10_lot_33 : decode cX10_lot 33 = .ok (.iload_n 2, 1) := by decide +kernel
theorem dX10_lot_34 : decode cX10_lot 34 = .ok (.iconst 0, 1) := by decide +kernel
theorem dX10_lot_35 : decode cX10_lot 35 = .ok (.iconst 5, 1) := by decide +kernel
theorem dX10_lot_36 : decode cX10_lot 36 = .ok (.invokestatic 133, 3) := by decide +kernel
theorem dX10_lot_39 : decode cX10_lot 39 = .ok (.ifCond .ne 7, 3) := by decide +kernel
theorem dX10_lot_42 : decode cX10_lot 42 = .ok (.iconst 1, 1) := by decide +kernel
theorem dX10_lot_43 : decode cX10_lot 43 = .ok (.goto 4, 3) := by decide +kernel
theorem dX10_lot_46 : decode cX10_lot 46 = .ok (.iconst 0, 1) := by decide +kernel
theorem dX10_lot_47 : decode cX10_lot 47 = .ok (.iconst 2, 1) := by decide +kernel
theorem dX10_lot_48 : decode cX10_lot 48 = .ok (.invokevirtual 141, 3) := by decide +kernel
theorem dX10_lot_51 : decode cX10_lot 51 = .ok (.ifCond .eq 7, 3) := by decide +kernel
theorem dX10_lot_54 : decode cX10_lot 54 = .ok (.iconst 0, 1) := by decide +kernel
theorem dX10_lot_55 : decode cX10_lot 55 = .ok (.goto 14, 3) := by decide +kernel
theorem dX10_lot_58 : decode cX10_lot 58 = .ok (.aload_n 0, 1) := by decide +kernel
theorem dX10_lot_59 : decode cX10_lot 59 = .ok (.getfield 96, 3) := by decide +kernel
theorem dX10_lot_62 : decode cX10_lot 62 = .ok (.bipush 6, 2) := by decide +kernel
theorem dX10_lot_64 : decode cX10_lot 64 = .ok (.iload_n 1, 1) := by decide +kernel
theorem dX10_lot_65 : decode cX10_lot 65 = .ok (.imul, 1) := by decide +kernel
theorem dX10_lot_66 : decode cX10_lot 66 = .ok (.iload_n 2, 1) := by decide +kernel
theorem dX10_lot_67 : decode cX10_lot 67 = .ok (.iadd, 1) := by decide +kernel
theorem dX10_lot_68 : decode cX10_lot 68 = .ok (.iaload, 1) := by decide +kernel
theorem dX10_lot_69 : decode cX10_lot 69 = .ok (.ireturn, 1) := by decide +kernel
set_option maxRecDepth 20000 in
theorem ggX10_enter_X10_noFamily : GoodIn wsX10_enter wsX10_noFamily := goodIn_r _ [7, 8, 9, 6, 10] (by decide +kernel) (by decide +kernel)
set_option maxRecDepth 20000 in
theorem gX10_enter_X10_noFamily : GoodIn wsX10_enter (va_wsS RX10 145 yX10_noFamily wsX10_noFamily) := goodIn_app (goodIn_of _ (by decide +kernel)) ggX10_enter_X10_noFamily
set_option maxRecDepth 20000 in
theorem ggX10_enter_X10_throwsIf : GoodIn wsX10_enter wsX10_throwsIf := goodIn_r _ [14, 1, 26, 27, 28, 29, 30, 31, 32, 33, 34, 35, 36, 37, 38, 39, 40, 41, 42, 43, 44, 45, 46, 47, 48, 49, 50, 51, 52, 53, 54, 55, 56, 57, 58, 59, 60, 61, 62, 63, 64, 65, 66, 67, 68, 69, 70, 71, 72, 73, 74, 75, 76, 77, 78] (by decide +kernel) (by decide +kernel)
set_option maxRecDepth 20000 in
theorem gX10_enter_X10_throwsIf : GoodIn wsX10_enter (wsV RX10 141 RX10 yX10_throwsIf wsX10_throwsIf) := goodIn_app (goodIn_of _ (by decide +kernel)) ggX10_enter_X10_throwsIf
set_option maxRecDepth 20000 in
theorem ggX10_enter_X10_in : GoodIn wsX10_enter wsX10_in := goodIn_r _ [10] (by decide +kernel) (by decide +kernel)
set_option maxRecDepth 20000 in
theorem gX10_enter_X10_in : GoodIn wsX10_enter (va_wsS RX10 133 yX10_in wsX10_in) := goodIn_app (goodIn_of _ (by decide +kernel)) ggX10_enter_X10_in
set_option maxRecDepth 20000 in
theorem ggX10_enter_X10_enters : GoodIn wsX10_enter wsX10_enters := goodIn_r _ [18, 19, 20, 21, 22, 23, 24, 25, 26, 27, 28, 29, 30, 31, 32, 33, 34, 35, 36, 37, 38, 39, 40, 41, 42, 43, 44, 45, 46, 47, 48, 49, 50, 51, 52, 53, 54, 55, 56, 57, 58, 59, 60, 61, 62, 63, 64, 65, 66, 67, 68, 69, 70, 71, 72, 73, 74, 75, 76, 77, 78] (by decide +kernel) (by decide +kernel)
set_option maxRecDepth 20000 in
theorem gX10_enter_X10_enters : GoodIn wsX10_enter (wsV RX10 274 RX10 yX10_enters wsX10_enters) := goodIn_app (goodIn_of _ (by decide +kernel)) ggX10_enter_X10_enters
theorem dX10_enter_0 : decode cX10_enter 0 = .ok (.aload_n 0, 1) := by decide +kernel
theorem dX10_enter_1 : decode cX10_enter 1 = .ok (.iconst 0, 1) := by decide +kernel
theorem dX10_enter_2 : decode cX10_enter 2 = .ok (.putfield 127, 3) := by decide +kernel
theorem dX10_enter_5 : decode cX10_enter 5 = .ok (.aload_n 0, 1) := by decide +kernel
theorem dX10_enter_6 : decode cX10_enter 6 = .ok (.iload_n 1, 1) := by decide +kernel
theorem dX10_enter_7 : decode cX10_enter 7 = .ok (.invokestatic 145, 3) := by decide +kernel
theorem dX10_enter_10 : decode cX10_enter 10 = .ok (.iconst 1, 1) := by decide +kernel
theorem dX10_enter_11 : decode cX10_enter 11 = .ok (.invokevirtual 141, 3) := by decide +kernel
theorem dX10_enter_14 : decode cX10_enter 14 = .ok (.ifCond .ne 40, 3) := by decide +kernel
theorem dX10_enter_17 : decode cX10_enter 17 = .ok (.aload_n 0, 1) := by decide +kernel
theorem dX10_enter_18 : decode cX10_enter 18 = .ok (.iload_n 2, 1) := by decide +kernel
theorem dX10_enter_19 : decode cX10_enter 19 = .ok (.ldc_w 277, 3) := by decide +kernel
theorem dX10_enter_22 : decode cX10_enter 22 = .ok (.ldc_w 278, 3) := by decide +kernel
theorem dX10_enter_25 : decode cX10_enter 25 = .ok (.invokestatic 133, 3) := by decide +kernel
theorem dX10_enter_28 : decode cX10_enter 28 = .ok (.ifCond .eq 14, 3) := by decide +kernel
theorem dX10_enter_31 : decode cX10_enter 31 = .ok (.iload_n 3, 1) := by decide +kernel
theorem dX10_enter_32 : decode cX10_enter 32 = .ok (.iconst 0, 1) := by decide +kernel
theorem dX10_enter_33 : decode cX10_enter 33 = .ok (.sipush 9999, 3) := by decide +kernel
theorem dX10_enter_36 : decode cX10_enter 36 = .ok (.invokestatic 133, 3) := by decide +kernel
theorem dX10_enter_39 : decode cX10_enter 39 = .ok (.ifCond .ne 7, 3) := by decide +kernel
theorem dX10_enter_42 : decode cX10_enter 42 = .ok (.iconst 1, 1) := by decide +kernel
theorem dX10_enter_43 : decode cX10_enter 43 = .ok (.goto 4, 3) := by decide +kernel
theorem dX10_enter_46 : decode cX10_enter 46 = .ok (.iconst 0, 1) := by decide +kernel
theorem dX10_enter_47 : decode cX10_enter 47 = .ok (.iconst 2, 1) := by decide +kernel
theorem dX10_enter_48 : decode cX10_enter 48 = .ok (.invokevirtual 141, 3) := by decide +kernel
theorem dX10_enter_51 : decode cX10_enter 51 = .ok (.ifCond .eq 5, 3) := by decide +kernel
theorem dX10_enter_54 : decode cX10_enter 54 = .ok (.iconst 0, 1) := by decide +kernel
theorem dX10_enter_55 : decode cX10_enter 55 = .ok (.ireturn, 1) := by decide +kernel
theorem dX10_enter_56 : decode cX10_enter 56 = .ok (.aload_n 0, 1) := by decide +kernel
theorem dX10_enter_57 : decode cX10_enter 57 = .ok (.iload_n 1, 1) := by decide +kernel
theorem dX10_enter_58 : decode cX10_enter 58 = .ok (.iload_n 2, 1) := by decide +kernel
theorem dX10_enter_59 : decode cX10_enter 59 = .ok (.iload_n 3, 1) := by decide +kernel
theorem dX10_enter_60 : decode cX10_enter 60 = .ok (.invokevirtual 274, 3) := by decide +kernel
theorem dX10_enter_63 : decode cX10_enter 63 = .ok (.ireturn, 1) := by decide +kernel
set_option maxRecDepth 20000 in
theorem ggX10_undo_X10_in : GoodIn wsX10_undo wsX10_in := goodIn_r _ [8] (by decide +kernel) (by decide +kernel)
set_option maxRecDepth 20000 in
theorem gX10_undo_X10_in : GoodIn wsX10_undo (va_wsS RX10 133 yX10_in wsX10_in) := goodIn_app (goodIn_of _ (by decide +kernel)) ggX10_undo_X10_in
set_option maxRecDepth 20000 in
theorem ggX10_undo_X10_throwsIf : GoodIn wsX10_undo wsX10_throwsIf := goodIn_r _ [12, 1, 13, 14, 15, 16, 17, 18, 19, 20, 21, 22, 23, 24, 25, 26, 27, 28, 29, 30, 31, 32, 33, 34, 35, 36, 37, 38, 39, 40, 41, 42, 43, 44, 45, 46, 47, 48, 49, 50, 51, 52, 53, 54, 55, 56, 57, 58, 59, 60, 61, 62, 63, 64, 65] (by decide +kernel) (by decide +kernel)
set_option maxRecDepth 20000 in
theorem gX10_undo_X10_throwsIf : GoodIn wsX10_undo (wsV RX10 141 RX10 yX10_throwsIf wsX10_throwsIf) := goodIn_app (goodIn_of _ (by decide +kernel)) ggX10_undo_X10_throwsIf
theorem dX10_undo_0 : decode cX10_undo 0 = .ok (.aload_n 0, 1) := by decide +kernel
theorem dX10_undo_1 : decode cX10_undo 1 = .ok (.iconst 0, 1) := by decide +kernel
theorem dX10_undo_2 : decode cX10_undo 2 = .ok (.putfield 127, 3) := by decide +kernel
theorem dX10_undo_5 : decode cX10_undo 5 = .ok (.aload_n 0, 1) := by decide +kernel
theorem dX10_undo_6 : decode cX10_undo 6 = .ok (.iload_n 1, 1) := by decide +kernel
theorem dX10_undo_7 : decode cX10_undo 7 = .ok (.iconst 0, 1) := by decide +kernel
theorem dX10_undo_8 : decode cX10_undo 8 = .ok (.aload_n 0, 1) := by decide +kernel
theorem dX10_undo_9 : decode cX10_undo 9 = .ok (.getfield 265, 3) := by decide +kernel
theorem dX10_undo_12 : decode cX10_undo 12 = .ok (.iconst 1, 1) := by decide +kernel
theorem dX10_undo_13 : decode cX10_undo 13 = .ok (.isub, 1) := by decide +kernel
theorem dX10_undo_14 : decode cX10_undo 14 = .ok (.invokestatic 133, 3) := by decide +kernel
theorem dX10_undo_17 : decode cX10_undo 17 = .ok (.ifCond .ne 7, 3) := by decide +kernel
theorem dX10_undo_20 : decode cX10_undo 20 = .ok (.iconst 1, 1) := by decide +kernel
theorem dX10_undo_21 : decode cX10_undo 21 = .ok (.goto 4, 3) := by decide +kernel
theorem dX10_undo_24 : decode cX10_undo 24 = .ok (.iconst 0, 1) := by decide +kernel
theorem dX10_undo_25 : decode cX10_undo 25 = .ok (.iconst 1, 1) := by decide +kernel
theorem dX10_undo_26 : decode cX10_undo 26 = .ok (.invokevirtual 141, 3) := by decide +kernel
theorem dX10_undo_29 : decode cX10_undo 29 = .ok (.ifCond .ne 12, 3) := by decide +kernel
theorem dX10_undo_32 : decode cX10_undo 32 = .ok (.aload_n 0, 1) := by decide +kernel
theorem dX10_undo_33 : decode cX10_undo 33 = .ok (.getfield 111, 3) := by decide +kernel
theorem dX10_undo_36 : decode cX10_undo 36 = .ok (.iload_n 1, 1) := by decide +kernel
theorem dX10_undo_37 : decode cX10_undo 37 = .ok (.iaload, 1) := by decide +kernel
theorem dX10_undo_38 : decode cX10_undo 38 = .ok (.ifCond .lt 5, 3) := by decide +kernel
theorem dX10_undo_41 : decode cX10_undo 41 = .ok (.iconst 0, 1) := by decide +kernel
theorem dX10_undo_42 : decode cX10_undo 42 = .ok (.ireturn, 1) := by decide +kernel
theorem dX10_undo_43 : decode cX10_undo 43 = .ok (.aload_n 0, 1) := by decide +kernel
theorem dX10_undo_44 : decode cX10_undo 44 = .ok (.getfield 111, 3) := by decide +kernel
theorem dX10_undo_47 : decode cX10_undo 47 = .ok (.iload_n 1, 1) := by decide +kernel
theorem dX10_undo_48 : decode cX10_undo 48 = .ok (.aload_n 0, 1) := by decide +kernel
theorem dX10_undo_49 : decode cX10_undo 49 = .ok (.getfield 148, 3) := by decide +kernel
theorem dX10_undo_52 : decode cX10_undo 52 = .ok (.iastore, 1) := by decide +kernel
theorem dX10_undo_53 : decode cX10_undo 53 = .ok (.iconst 1, 1) := by decide +kernel
theorem dX10_undo_54 : decode cX10_undo 54 = .ok (.ireturn, 1) := by decide +kernel
set_option maxRecDepth 20000 in
theorem ggX10_balance_X10_noFamily : GoodIn wsX10_balance wsX10_noFamily := goodIn_r _ [11, 12, 13, 10, 14] (by decide +kernel) (by decide +kernel)
set_option maxRecDepth 20000 in
theorem gX10_balance_X10_noFamily : GoodIn wsX10_balance (va_wsS RX10 145 yX10_noFamily wsX10_noFamily) := goodIn_app (goodIn_of _ (by decide +kernel)) ggX10_balance_X10_noFamily
set_option maxRecDepth 20000 in
theorem ggX10_balance_X10_throwsIf : GoodIn wsX10_balance wsX10_throwsIf := goodIn_r _ [18, 1, 19, 20, 21, 22, 23, 24, 25, 26, 27, 28, 29, 30, 31, 32, 33, 34, 35, 36, 37, 38, 39, 40, 41, 42, 43, 44, 45, 46, 47, 48, 49, 50, 51, 52, 53, 54, 55, 56, 57, 58, 59, 60, 61, 62, 63, 64, 65, 66, 67, 68, 69, 70, 71] (by decide +kernel) (by decide +kernel)
set_option maxRecDepth 20000 in
theorem gX10_balance_X10_throwsIf : GoodIn wsX10_balance (wsV RX10 141 RX10 yX10_throwsIf wsX10_throwsIf) := goodIn_app (goodIn_of _ (by decide +kernel)) ggX10_balance_X10_throwsIf
theorem dX10_balance_0 : decode cX10_balance 0 = .ok (.aload_n 0, 1) := by decide +kernel
theorem dX10_balance_1 : decode cX10_balance 1 = .ok (.iconst 0, 1) := by decide +kernel
theorem dX10_balance_2 : decode cX10_balance 2 = .ok (.putfield 127, 3) := by decide +kernel
theorem dX10_balance_5 : decode cX10_balance 5 = .ok (.aload_n 0, 1) := by decide +kernel
theorem dX10_balance_6 : decode cX10_balance 6 = .ok (.iload_n 1, 1) := by decide +kernel
theorem dX10_balance_7 : decode cX10_balance 7 = .ok (.invokestatic 145, 3) := by decide +kernel
theorem dX10_balance_10 : decode cX10_balance 10 = .ok (.iconst 1, 1) := by decide +kernel
theorem dX10_balance_11 : decode cX10_balance 11 = .ok (.invokevirtual 141, 3) := by decide +kernel
theorem dX10_balance_14 : decode cX10_balance 14 = .ok (.ifCond .eq 5, 3) := by decide +kernel
theorem dX10_balance_17 : decode cX10_balance 17 = .ok (.iconst 0, 1) := by decide +kernel
theorem dX10_balance_18 : decode cX10_balance 18 = .ok (.ireturn, 1) := by decide +kernel
theorem dX10_balance_19 : decode cX10_balance 19 = .ok (.iconst 0, 1) := by decide +kernel
theorem dX10_balance_20 : decode cX10_balance 20 = .ok (.istore 4, 2) := by decide +kernel
theorem dX10_balance_22 : decode cX10_balance 22 = .ok (.iconst 0, 1) := by decide +kernel
theorem dX10_balance_23 : decode cX10_balance 23 = .ok (.istore 5, 2) := by decide +kernel
theorem dX10_balance_25 : decode cX10_balance 25 = .ok (.iload 5, 2) := by decide +kernel
theorem dX10_balance_27 : decode cX10_balance 27 = .ok (.aload_n 0, 1) := by decide +kernel
theorem dX10_balance_28 : decode cX10_balance 28 = .ok (.getfield 265, 3) := by decide +kernel
theorem dX10_balance_31 : decode cX10_balance 31 = .ok (.if_icmp .ge 91, 3) := by decide +kernel
theorem dX10_balance_34 : decode cX10_balance 34 = .ok (.aload_n 0, 1) := by decide +kernel
theorem dX10_balance_35 : decode cX10_balance 35 = .ok (.getfield 108, 3) := by decide +kernel
theorem dX10_balance_38 : decode cX10_balance 38 = .ok (.iload 5, 2) := by decide +kernel
theorem dX10_balance_40 : decode cX10_balance 40 = .ok (.iaload, 1) := by decide +kernel
theorem dX10_balance_41 : decode cX10_balance 41 = .ok (.iload_n 3, 1) := by decide +kernel
theorem dX10_balance_42 : decode cX10_balance 42 = .ok (.if_icmp .gt 28, 3) := by decide +kernel
theorem dX10_balance_45 : decode cX10_balance 45 = .ok (.aload_n 0, 1) := by decide +kernel
theorem dX10_balance_46 : decode cX10_balance 46 = .ok (.getfield 111, 3) := by decide +kernel
theorem dX10_balance_49 : decode cX10_balance 49 = .ok (.iload 5, 2) := by decide +kernel
theorem dX10_balance_51 : decode cX10_balance 51 = .ok (.iaload, 1) := by decide +kernel
theorem dX10_balance_52 : decode cX10_balance 52 = .ok (.ifCond .lt 14, 3) := by decide +kernel
theorem dX10_balance_55 : decode cX10_balance 55 = .ok (.iload_n 3, 1) := by decide +kernel
theorem dX10_balance_56 : decode cX10_balance 56 = .ok (.aload_n 0, 1) := by decide +kernel
theorem dX10_balance_57 : decode cX10_balance 57 = .ok (.getfield 111, 3) := by decide +kernel
theorem dX10_balance_60 : decode cX10_balance 60 = .ok (.iload 5, 2) := by decide +kernel
theorem dX10_balance_62 : decode cX10_balance 62 = .ok (.iaload, 1) := by decide +kernel
theorem dX10_balance_63 : decode cX10_balance 63 = .ok (.if_icmp .ge 7, 3) := by decide +kernel
theorem dX10_balance_66 : decode cX10_balance 66 = .ok (.iconst 1, 1) := by decide +kernel
theorem dX10_balance_67 : decode cX10_balance 67 = .ok (.goto 4, 3) := by decide +kernel
theorem dX10_balance_70 : decode cX10_balance 70 = .ok (.iconst 0, 1) := by decide +kernel
theorem dX10_balance_71 : decode cX10_balance 71 = .ok (.istore 6, 2) := by decide +kernel
theorem dX10_balance_73 : decode cX10_balance 73 = .ok (.iload 4, 2) := by decide +kernel
theorem dX10_balance_75 : decode cX10_balance 75 = .ok (.iload 6, 2) := by decide +kernel
theorem dX10_balance_77 : decode cX10_balance 77 = .ok (.ifCond .eq 35, 3) := by decide +kernel
theorem dX10_balance_80 : decode cX10_balance 80 = .ok (.aload_n 0, 1) := by decide +kernel
theorem dX10_balance_81 : decode cX10_balance 81 = .ok (.getfield 99, 3) := by decide +kernel
theorem dX10_balance_84 : decode cX10_balance 84 = .ok (.iload 5, 2) := by decide +kernel
theorem dX10_balance_86 : decode cX10_balance 86 = .ok (.iaload, 1) := by decide +kernel
theorem dX10_balance_87 : decode cX10_balance 87 = .ok (.iload_n 1, 1) := by decide +kernel
theorem dX10_balance_88 : decode cX10_balance 88 = .ok (.if_icmp .ne 24, 3) := by decide +kernel
theorem dX10_balance_91 : decode cX10_balance 91 = .ok (.aload_n 0, 1) := by decide +kernel
theorem dX10_balance_92 : decode cX10_balance 92 = .ok (.getfield 105, 3) := by decide +kernel
theorem dX10_balance_95 : decode cX10_balance 95 = .ok (.iload 5, 2) := by decide +kernel
theorem dX10_balance_97 : decode cX10_balance 97 = .ok (.iaload, 1) := by decide +kernel
theorem dX10_balance_98 : decode cX10_balance 98 = .ok (.iload_n 2, 1) := by decide +kernel
theorem dX10_balance_99 : decode cX10_balance 99 = .ok (.if_icmp .gt 13, 3) := by decide +kernel
theorem dX10_balance_102 : decode cX10_balance 102 = .ok (.aload_n 0, 1) := by decide +kernel
theorem dX10_balance_103 : decode cX10_balance 103 = .ok (.getfield 102, 3) := by decide +kernel
theorem dX10_balance_106 : decode cX10_balance 106 = .ok (.iload 5, 2) := by decide +kernel
theorem dX10_balance_108 : decode cX10_balance 108 = .ok (.iaload, 1) := by decide +kernel
theorem dX10_balance_109 : decode cX10_balance 109 = .ok (.goto 4, 3) := by decide +kernel
theorem dX10_balance_112 : decode cX10_balance 112 = .ok (.iconst 0, 1) := by decide +kernel
theorem dX10_balance_113 : decode cX10_balance 113 = .ok (.iadd, 1) := by decide +kernel
theorem dX10_balance_114 : decode cX10_balance 114 = .ok (.istore 4, 2) := by decide +kernel
theorem dX10_balance_116 : decode cX10_balance 116 = .ok (.iinc 5 1, 3) := by decide +kernel
theorem dX10_balance_119 : decode cX10_balance 119 = .ok (.goto (-94), 3) := by decide +kernel
theorem dX10_balance_122 : decode cX10_balance 122 = .ok (.iload 4, 2) := by decide +kernel
theorem dX10_balance_124 : decode cX10_balance 124 = .ok (.ireturn, 1) := by decide +kernel
theorem dX10_foretell_0 : decode cX10_foretell 0 = .ok (.aload_n 0, 1) := by decide +kernel
theorem dX10_foretell_1 : decode cX10_foretell 1 = .ok (.iconst 0, 1) := by decide +kernel
theorem dX10_foretell_2 : decode cX10_foretell 2 = .ok (.putfield 127, 3) := by decide +kernel
theorem dX10_foretell_5 : decode cX10_foretell 5 = .ok (.aload_n 0, 1) := by decide +kernel
theorem dX10_foretell_6 : decode cX10_foretell 6 = .ok (.getfield 279, 3) := by decide +kernel
theorem dX10_foretell_9 : decode cX10_foretell 9 = .ok (.bipush 16, 2) := by decide +kernel
theorem dX10_foretell_11 : decode cX10_foretell 11 = .ok (.if_icmp .ne 5, 3) := by decide +kernel
theorem dX10_foretell_14 : decode cX10_foretell 14 = .ok (.iconst (-1), 1) := by decide +kernel
theorem dX10_foretell_15 : decode cX10_foretell 15 = .ok (.ireturn, 1) := by decide +kernel
theorem dX10_foretell_16 : decode cX10_foretell 16 = .ok (.aload_n 0, 1) := by decide +kernel
theorem dX10_foretell_17 : decode cX10_foretell 17 = .ok (.getfield 114, 3) := by decide +kernel
theorem dX10_foretell_20 : decode cX10_foretell 20 = .ok (.aload_n 0, 1) := by decide +kernel
theorem dX10_foretell_21 : decode cX10_foretell 21 = .ok (.getfield 279, 3) := by decide +kernel
theorem dX10_foretell_24 : decode cX10_foretell 24 = .ok (.iload_n 1, 1) := by decide +kernel
theorem dX10_foretell_25 : decode cX10_foretell 25 = .ok (.bastore, 1) := by decide +kernel
theorem dX10_foretell_26 : decode cX10_foretell 26 = .ok (.aload_n 0, 1) := by decide +kernel
theorem dX10_foretell_27 : decode cX10_foretell 27 = .ok (.getfield 118, 3) := by decide +kernel
theorem dX10_foretell_30 : decode cX10_foretell 30 = .ok (.aload_n 0, 1) := by decide +kernel
theorem dX10_foretell_31 : decode cX10_foretell 31 = .ok (.getfield 279, 3) := by decide +kernel
theorem dX10_foretell_34 : decode cX10_foretell 34 = .ok (.iload_n 2, 1) := by decide +kernel
theorem dX10_foretell_35 : decode cX10_foretell 35 = .ok (.bastore, 1) := by decide +kernel
theorem dX10_foretell_36 : decode cX10_foretell 36 = .ok (.aload_n 0, 1) := by decide +kernel
theorem dX10_foretell_37 : decode cX10_foretell 37 = .ok (.getfield 121, 3) := by decide +kernel
theorem dX10_foretell_40 : decode cX10_foretell 40 = .ok (.aload_n 0, 1) := by decide +kernel
theorem dX10_foretell_41 : decode cX10_foretell 41 = .ok (.getfield 279, 3) := by decide +kernel
theorem dX10_foretell_44 : decode cX10_foretell 44 = .ok (.iload_n 3, 1) := by decide +kernel
theorem dX10_foretell_45 : decode cX10_foretell 45 = .ok (.bastore, 1) := by decide +kernel
theorem dX10_foretell_46 : decode cX10_foretell 46 = .ok (.aload_n 0, 1) := by decide +kernel
theorem dX10_foretell_47 : decode cX10_foretell 47 = .ok (.dup, 1) := by decide +kernel
theorem dX10_foretell_48 : decode cX10_foretell 48 = .ok (.getfield 279, 3) := by decide +kernel
theorem dX10_foretell_51 : decode cX10_foretell 51 = .ok (.iconst 1, 1) := by decide +kernel
theorem dX10_foretell_52 : decode cX10_foretell 52 = .ok (.iadd, 1) := by decide +kernel
theorem dX10_foretell_53 : decode cX10_foretell 53 = .ok (.putfield 279, 3) := by decide +kernel
theorem dX10_foretell_56 : decode cX10_foretell 56 = .ok (.aload_n 0, 1) := by decide +kernel
theorem dX10_foretell_57 : decode cX10_foretell 57 = .ok (.getfield 279, 3) := by decide +kernel
theorem dX10_foretell_60 : decode cX10_foretell 60 = .ok (.ireturn, 1) := by decide +kernel
theorem dX10_at_0 : decode cX10_at 0 = .ok (.bipush 18, 2) := by decide +kernel
theorem dX10_at_2 : decode cX10_at 2 = .ok (.iload_n 0, 1) := by decide +kernel
theorem dX10_at_3 : decode cX10_at 3 = .ok (.imul, 1) := by decide +kernel
theorem dX10_at_4 : decode cX10_at 4 = .ok (.iload_n 1, 1) := by decide +kernel
theorem dX10_at_5 : decode cX10_at 5 = .ok (.iadd, 1) := by decide +kernel
theorem dX10_at_6 : decode cX10_at 6 = .ok (.bipush 18, 2) := by decide +kernel
theorem dX10_at_8 : decode cX10_at 8 = .ok (.imul, 1) := by decide +kernel
theorem dX10_at_9 : decode cX10_at 9 = .ok (.iload_n 2, 1) := by decide +kernel
theorem dX10_at_10 : decode cX10_at 10 = .ok (.iadd, 1) := by decide +kernel
theorem dX10_at_11 : decode cX10_at 11 = .ok (.ireturn, 1) := by decide +kernel
set_option maxRecDepth 20000 in
theorem ggX10_best_X10_at : GoodIn wsX10_best wsX10_at := goodIn_r _ [13] (by decide +kernel) (by decide +kernel)
set_option maxRecDepth 20000 in
theorem gX10_best_X10_at : GoodIn wsX10_best (va_wsS RX10 282 yX10_at wsX10_at) := goodIn_app (goodIn_of _ (by decide +kernel)) ggX10_best_X10_at
theorem dX10_best_0 : decode cX10_best 0 = .ok (.aload_n 0, 1) := by decide +kernel
theorem dX10_best_1 : decode cX10_best 1 = .ok (.getfield 124, 3) := by decide +kernel
theorem dX10_best_4 : decode cX10_best 4 = .ok (.iload_n 1, 1) := by decide +kernel
theorem dX10_best_5 : decode cX10_best 5 = .ok (.iconst 1, 1) := by decide +kernel
theorem dX10_best_6 : decode cX10_best 6 = .ok (.iadd, 1) := by decide +kernel
theorem dX10_best_7 : decode cX10_best 7 = .ok (.iload_n 2, 1) := by decide +kernel
theorem dX10_best_8 : decode cX10_best 8 = .ok (.iload_n 3, 1) := by decide +kernel
theorem dX10_best_9 : decode cX10_best 9 = .ok (.invokestatic 282, 3) := by decide +kernel
theorem dX10_best_12 : decode cX10_best 12 = .ok (.iaload, 1) := by decide +kernel
theorem dX10_best_13 : decode cX10_best 13 = .ok (.istore 4, 2) := by decide +kernel
theorem dX10_best_15 : decode cX10_best 15 = .ok (.aload_n 0, 1) := by decide +kernel
theorem dX10_best_16 : decode cX10_best 16 = .ok (.getfield 114, 3) := by decide +kernel
theorem dX10_best_19 : decode cX10_best 19 = .ok (.iload_n 1, 1) := by decide +kernel
theorem dX10_best_20 : decode cX10_best 20 = .ok (.baload, 1) := by decide +kernel
theorem dX10_best_21 : decode cX10_best 21 = .ok (.ifCond .eq 25, 3) := by decide +kernel
theorem dX10_best_24 : decode cX10_best 24 = .ok (.iload 4, 2) := by decide +kernel
theorem dX10_best_26 : decode cX10_best 26 = .ok (.aload_n 0, 1) := by decide +kernel
theorem dX10_best_27 : decode cX10_best 27 = .ok (.getfield 124, 3) := by decide +kernel
theorem dX10_best_30 : decode cX10_best 30 = .ok (.iload_n 1, 1) := by decide +kernel
theorem dX10_best_31 : decode cX10_best 31 = .ok (.iconst 1, 1) := by decide +kernel
theorem dX10_best_32 : decode cX10_best 32 = .ok (.iadd, 1) := by decide +kernel
theorem dX10_best_33 : decode cX10_best 33 = .ok (.iload_n 2, 1) := by decide +kernel
theorem dX10_best_34 : decode cX10_best 34 = .ok (.iconst 1, 1) := by decide +kernel
theorem dX10_best_35 : decode cX10_best 35 = .ok (.iadd, 1) := by decide +kernel
theorem dX10_best_36 : decode cX10_best 36 = .ok (.iload_n 3, 1) := by decide +kernel
theorem dX10_best_37 : decode cX10_best 37 = .ok (.invokestatic 282, 3) := by decide +kernel
theorem dX10_best_40 : decode cX10_best 40 = .ok (.iaload, 1) := by decide +kernel
theorem dX10_best_41 : decode cX10_best 41 = .ok (.invokestatic 179, 3) := by decide +kernel
theorem dX10_best_44 : decode cX10_best 44 = .ok (.istore 4, 2) := by decide +kernel
theorem dX10_best_46 : decode cX10_best 46 = .ok (.iload_n 2, 1) := by decide +kernel
theorem dX10_best_47 : decode cX10_best 47 = .ok (.ifCond .le 45, 3) := by decide +kernel
theorem dX10_best_50 : decode cX10_best 50 = .ok (.aload_n 0, 1) := by decide +kernel
theorem dX10_best_51 : decode cX10_best 51 = .ok (.getfield 118, 3) := by decide +kernel
theorem dX10_best_54 : decode cX10_best 54 = .ok (.iload_n 1, 1) := by decide +kernel
theorem dX10_best_55 : decode cX10_best 55 = .ok (.baload, 1) := by decide +kernel
theorem dX10_best_56 : decode cX10_best 56 = .ok (.ifCond .eq 36, 3) := by decide +kernel
theorem dX10_best_59 : decode cX10_best 59 = .ok (.aload_n 0, 1) := by decide +kernel
theorem dX10_best_60 : decode cX10_best 60 = .ok (.getfield 121, 3) := by decide +kernel
theorem dX10_best_63 : decode cX10_best 63 = .ok (.iload_n 1, 1) := by decide +kernel
theorem dX10_best_64 : decode cX10_best 64 = .ok (.baload, 1) := by decide +kernel
theorem dX10_best_65 : decode cX10_best 65 = .ok (.ifCond .ne 27, 3) := by decide +kernel
theorem dX10_best_68 : decode cX10_best 68 = .ok (.iload 4, 2) := by decide +kernel
theorem dX10_best_70 : decode cX10_best 70 = .ok (.aload_n 0, 1) := by decide +kernel
theorem dX10_best_71 : decode cX10_best 71 = .ok (.getfield 124, 3) := by decide +kernel
theorem dX10_best_74 : decode cX10_best 74 = .ok (.iload_n 1, 1) := by decide +kernel
theorem dX10_best_75 : decode cX10_best 75 = .ok (.iconst 1, 1) := by decide +kernel
theorem dX10_best_76 : decode cX10_best 76 = .ok (.iadd, 1) := by decide +kernel
theorem dX10_best_77 : decode cX10_best 77 = .ok (.iload_n 2, 1) := by decide +kernel
theorem dX10_best_78 : decode cX10_best 78 = .ok (.iconst 1, 1) := by decide +kernel
theorem dX10_best_79 : decode cX10_best 79 = .ok (.isub, 1) := by decide +kernel
theorem dX10_best_80 : decode cX10_best 80 = .ok (.iload_n 3, 1) := by decide +kernel
theorem dX10_best_81 : decode cX10_best 81 = .ok (.iconst 1, 1) := by decide +kernel
theorem dX10_best_82 : decode cX10_best 82 = .ok (.iadd, 1) := by decide +kernel
theorem dX10_best_83 : decode cX10_best 83 = .ok (.invokestatic 282, 3) := by decide +kernel
theorem dX10_best_86 : decode cX10_best 86 = .ok (.iaload, 1) := by decide +kernel
theorem dX10_best_87 : decode cX10_best 87 = .ok (.invokestatic 179, 3) := by decide +kernel
theorem dX10_best_90 : decode cX10_best 90 = .ok (.istore 4, 2) := by decide +kernel
theorem dX10_best_92 : decode cX10_best 92 = .ok (.iload_n 3, 1) := by decide +kernel
theorem dX10_best_93 : decode cX10_best 93 = .ok (.ifCond .le 48, 3) := by decide +kernel
theorem dX10_best_96 : decode cX10_best 96 = .ok (.iload_n 1, 1) := by decide +kernel
theorem dX10_best_97 : decode cX10_best 97 = .ok (.iconst 2, 1) := by decide +kernel
theorem dX10_best_98 : decode cX10_best 98 = .ok (.iadd, 1) := by decide +kernel
theorem dX10_best_99 : decode cX10_best 99 = .ok (.aload_n 0, 1) := by decide +kernel
theorem dX10_best_100 : decode cX10_best 100 = .ok (.getfield 279, 3) := by decide +kernel
theorem dX10_best_103 : decode cX10_best 103 = .ok (.if_icmp .ge 38, 3) := by decide +kernel
theorem dX10_best_106 : decode cX10_best 106 = .ok (.aload_n 0, 1) := by decide +kernel
theorem dX10_best_107 : decode cX10_best 107 = .ok (.getfield 121, 3) := by decide +kernel
theorem dX10_best_110 : decode cX10_best 110 = .ok (.iload_n 1, 1) := by decide +kernel
theorem dX10_best_111 : decode cX10_best 111 = .ok (.baload, 1) := by decide +kernel
theorem dX10_best_112 : decode cX10_best 112 = .ok (.ifCond .ne 29, 3) := by decide +kernel
theorem dX10_best_115 : decode cX10_best 115 = .ok (.aload_n 0, 1) := by decide +kernel
theorem dX10_best_116 : decode cX10_best 116 = .ok (.getfield 121, 3) := by decide +kernel
theorem dX10_best_119 : decode cX10_best 119 = .ok (.iload_n 1, 1) := by decide +kernel
theorem dX10_best_120 : decode cX10_best 120 = .ok (.iconst 1, 1) := by decide +kernel
theorem dX10_best_121 : decode cX10_best 121 = .ok (.iadd, 1) := by decide +kernel
theorem dX10_best_122 : decode cX10_best 122 = .ok (.baload, 1) := by decide +kernel
theorem dX10_best_123 : decode cX10_best 123 = .ok (.ifCond .ne 18, 3) := by decide +kernel
theorem dX10_best_126 : decode cX10_best 126 = .ok (.aload_n 0, 1) := by decide +kernel
theorem dX10_best_127 : decode cX10_best 127 = .ok (.getfield 121, 3) := by decide +kernel
theorem dX10_best_130 : decode cX10_best 130 = .ok (.iload_n 1, 1) := by decide +kernel
theorem dX10_best_131 : decode cX10_best 131 = .ok (.iconst 2, 1) := by decide +kernel
theorem dX10_best_132 : decode cX10_best 132 = .ok (.iadd, 1) := by decide +kernel
theorem dX10_best_133 : decode cX10_best 133 = .ok (.baload, 1) := by decide +kernel
theorem dX10_best_134 : decode cX10_best 134 = .ok (.ifCond .ne 7, 3) := by decide +kernel
theorem dX10_best_137 : decode cX10_best 137 = .ok (.iconst 1, 1) := by decide +kernel
theorem dX10_best_138 : decode cX10_best 138 = .ok (.goto 4, 3) := by decide +kernel
theorem dX10_best_141 : decode cX10_best 141 = .ok (.iconst 0, 1) := by decide +kernel
theorem dX10_best_142 : decode cX10_best 142 = .ok (.istore 5, 2) := by decide +kernel
theorem dX10_best_144 : decode cX10_best 144 = .ok (.iload 5, 2) := by decide +kernel
theorem dX10_best_146 : decode cX10_best 146 = .ok (.ifCond .eq 26, 3) := by decide +kernel
theorem dX10_best_149 : decode cX10_best 149 = .ok (.iload 4, 2) := by decide +kernel
theorem dX10_best_151 : decode cX10_best 151 = .ok (.iload_n 3, 1) := by decide +kernel
theorem dX10_best_152 : decode cX10_best 152 = .ok (.aload_n 0, 1) := by decide +kernel
theorem dX10_best_153 : decode cX10_best 153 = .ok (.getfield 124, 3) := by decide +kernel
theorem dX10_best_156 : decode cX10_best 156 = .ok (.iload_n 1, 1) := by decide +kernel
theorem dX10_best_157 : decode cX10_best 157 = .ok (.iconst 1, 1) := by decide +kernel
theorem dX10_best_158 : decode cX10_best 158 = .ok (.iadd, 1) := by decide +kernel
theorem dX10_best_159 : decode cX10_best 159 = .ok (.iload_n 2, 1) := by decide +kernel
theorem dX10_best_160 : decode cX10_best 160 = .ok (.iconst 0, 1) := by decide +kernel
theorem dX10_best_161 : decode cX10_best 161 = .ok (.invokestatic 282, 3) := by decide +kernel
theorem dX10_best_164 : decode cX10_best 164 = .ok (.iaload, 1) := by decide +kernel
theorem dX10_best_165 : decode cX10_best 165 = .ok (.iadd, 1) := by decide +kernel
theorem dX10_best_166 : decode cX10_best 166 = .ok (.invokestatic 179, 3) := by decide +kernel
theorem dX10_best_169 : decode cX10_best 169 = .ok (.goto 5, 3) := by decide +kernel
theorem dX10_best_172 : decode cX10_best 172 = .ok (.iload 4, 2) := by decide +kernel
theorem dX10_best_174 : decode cX10_best 174 = .ok (.ireturn, 1) := by decide +kernel
set_option maxRecDepth 20000 in
theorem ggX10_plan_X10_at : GoodIn wsX10_plan wsX10_at := goodIn_r _ [7] (by decide +kernel) (by decide +kernel)
set_option maxRecDepth 20000 in
theorem gX10_plan_X10_at : GoodIn wsX10_plan (va_wsS RX10 282 yX10_at wsX10_at) := goodIn_app (goodIn_of _ (by decide +kernel)) ggX10_plan_X10_at
set_option maxRecDepth 20000 in
theorem ggX10_plan_X10_best : GoodIn wsX10_plan wsX10_best := goodIn_r _ [11, 3, 12, 13, 14, 15, 16, 17, 18, 2, 4, 5, 6, 7, 19, 20, 21, 22, 23, 24, 25, 26, 27, 28, 29, 30, 31, 32, 33, 34, 35, 36, 37, 38, 39, 40, 41, 42, 43, 44, 45, 46, 47, 48, 49, 50, 51, 52, 53, 54, 55, 56, 57, 58, 59, 60, 61, 62, 63, 64, 65, 66, 67, 68, 69, 70, 71] (by decide +kernel) (by decide +kernel)
set_option maxRecDepth 20000 in
theorem gX10_plan_X10_best : GoodIn wsX10_plan (wsV RX10 285 RX10 yX10_best wsX10_best) := goodIn_app (goodIn_of _ (by decide +kernel)) ggX10_plan_X10_best
theorem dX10_plan_0 : decode cX10_plan 0 = .ok (.aload_n 0, 1) := by decide +kernel
theorem dX10_plan_1 : decode cX10_plan 1 = .ok (.iconst 0, 1) := by decide +kernel
theorem dX10_plan_2 : decode cX10_plan 2 = .ok (.putfield 127, 3) := by decide +kernel
theorem dX10_plan_5 : decode cX10_plan 5 = .ok (.aload_n 0, 1) := by decide +kernel
theorem dX10_plan_6 : decode cX10_plan 6 = .ok (.getfield 279, 3) := by decide +kernel
theorem dX10_plan_9 : decode cX10_plan 9 = .ok (.istore_n 1, 1) := by decide +kernel
theorem dX10_plan_10 : decode cX10_plan 10 = .ok (.iconst 0, 1) := by decide +kernel
theorem dX10_plan_11 : decode cX10_plan 11 = .ok (.istore_n 2, 1) := by decide +kernel
theorem dX10_plan_12 : decode cX10_plan 12 = .ok (.iload_n 2, 1) := by decide +kernel
theorem dX10_plan_13 : decode cX10_plan 13 = .ok (.bipush 18, 2) := by decide +kernel
theorem dX10_plan_15 : decode cX10_plan 15 = .ok (.if_icmp .ge 35, 3) := by decide +kernel
theorem dX10_plan_18 : decode cX10_plan 18 = .ok (.iconst 0, 1) := by decide +kernel
theorem dX10_plan_19 : decode cX10_plan 19 = .ok (.istore_n 3, 1) := by decide +kernel
theorem dX10_plan_20 : decode cX10_plan 20 = .ok (.iload_n 3, 1) := by decide +kernel
theorem dX10_plan_21 : decode cX10_plan 21 = .ok (.bipush 18, 2) := by decide +kernel
theorem dX10_plan_23 : decode cX10_plan 23 = .ok (.if_icmp .ge 21, 3) := by decide +kernel
theorem dX10_plan_26 : decode cX10_plan 26 = .ok (.aload_n 0, 1) := by decide +kernel
theorem dX10_plan_27 : decode cX10_plan 27 = .ok (.getfield 124, 3) := by decide +kernel
theorem dX10_plan_30 : decode cX10_plan 30 = .ok (.iload_n 1, 1) := by decide +kernel
theorem dX10_plan_31 : decode cX10_plan 31 = .ok (.iload_n 2, 1) := by decide +kernel
theorem dX10_plan_32 : decode cX10_plan 32 = .ok (.iload_n 3, 1) := by decide +kernel
theorem dX10_plan_33 : decode cX10_plan 33 = .ok (.invokestatic 282, 3) := by decide +kernel
theorem dX10_plan_36 : decode cX10_plan 36 = .ok (.iconst 0, 1) := by decide +kernel
theorem dX10_plan_37 : decode cX10_plan 37 = .ok (.iastore, 1) := by decide +kernel
theorem dX10_plan_38 : decode cX10_plan 38 = .ok (.iinc 3 1, 3) := by decide +kernel
theorem dX10_plan_41 : decode cX10_plan 41 = .ok (.goto (-21), 3) := by decide +kernel
theorem dX10_plan_44 : decode cX10_plan 44 = .ok (.iinc 2 1, 3) := by decide +kernel
theorem dX10_plan_47 : decode cX10_plan 47 = .ok (.goto (-35), 3) := by decide +kernel
theorem dX10_plan_50 : decode cX10_plan 50 = .ok (.iload_n 1, 1) := by decide +kernel
theorem dX10_plan_51 : decode cX10_plan 51 = .ok (.iconst 1, 1) := by decide +kernel
theorem dX10_plan_52 : decode cX10_plan 52 = .ok (.isub, 1) := by decide +kernel
theorem dX10_plan_53 : decode cX10_plan 53 = .ok (.istore_n 2, 1) := by decide +kernel
theorem dX10_plan_54 : decode cX10_plan 54 = .ok (.iload_n 2, 1) := by decide +kernel
theorem dX10_plan_55 : decode cX10_plan 55 = .ok (.ifCond .lt 59, 3) := by decide +kernel
theorem dX10_plan_58 : decode cX10_plan 58 = .ok (.iconst 0, 1) := by decide +kernel
theorem dX10_plan_59 : decode cX10_plan 59 = .ok (.istore_n 3, 1) := by decide +kernel
theorem dX10_plan_60 : decode cX10_plan 60 = .ok (.iload_n 3, 1) := by decide +kernel
theorem dX10_plan_61 : decode cX10_plan 61 = .ok (.iload_n 2, 1) := by decide +kernel
theorem dX10_plan_62 : decode cX10_plan 62 = .ok (.if_icmp .gt 46, 3) := by decide +kernel
theorem dX10_plan_65 : decode cX10_plan 65 = .ok (.iconst 0, 1) := by decide +kernel
theorem dX10_plan_66 : decode cX10_plan 66 = .ok (.istore 4, 2) := by decide +kernel
theorem dX10_plan_68 : decode cX10_plan 68 = .ok (.iload_n 3, 1) := by decide +kernel
theorem dX10_plan_69 : decode cX10_plan 69 = .ok (.iload 4, 2) := by decide +kernel
theorem dX10_plan_71 : decode cX10_plan 71 = .ok (.iadd, 1) := by decide +kernel
theorem dX10_plan_72 : decode cX10_plan 72 = .ok (.iload_n 2, 1) := by decide +kernel
theorem dX10_plan_73 : decode cX10_plan 73 = .ok (.if_icmp .gt 29, 3) := by decide +kernel
theorem dX10_plan_76 : decode cX10_plan 76 = .ok (.aload_n 0, 1) := by decide +kernel
theorem dX10_plan_77 : decode cX10_plan 77 = .ok (.getfield 124, 3) := by decide +kernel
theorem dX10_plan_80 : decode cX10_plan 80 = .ok (.iload_n 2, 1) := by decide +kernel
theorem dX10_plan_81 : decode cX10_plan 81 = .ok (.iload_n 3, 1) := by decide +kernel
theorem dX10_plan_82 : decode cX10_plan 82 = .ok (.iload 4, 2) := by decide +kernel
theorem dX10_plan_84 : decode cX10_plan 84 = .ok (.invokestatic 282, 3) := by decide +kernel
theorem dX10_plan_87 : decode cX10_plan 87 = .ok (.aload_n 0, 1) := by decide +kernel
theorem dX10_plan_88 : decode cX10_plan 88 = .ok (.iload_n 2, 1) := by decide +kernel
theorem dX10_plan_89 : decode cX10_plan 89 = .ok (.iload_n 3, 1) := by decide +kernel
theorem dX10_plan_90 : decode cX10_plan 90 = .ok (.iload 4, 2) := by decide +kernel
theorem dX10_plan_92 : decode cX10_plan 92 = .ok (.invokevirtual 285, 3) := by decide +kernel
theorem dX10_plan_95 : decode cX10_plan 95 = .ok (.iastore, 1) := by decide +kernel
theorem dX10_plan_96 : decode cX10_plan 96 = .ok (.iinc 4 1, 3) := by decide +kernel
theorem dX10_plan_99 : decode cX10_plan 99 = .ok (.goto (-31), 3) := by decide +kernel
theorem dX10_plan_102 : decode cX10_plan 102 = .ok (.iinc 3 1, 3) := by decide +kernel
theorem dX10_plan_105 : decode cX10_plan 105 = .ok (.goto (-45), 3) := by decide +kernel
theorem dX10_plan_108 : decode cX10_plan 108 = .ok (.iinc 2 (-1), 3) := by decide +kernel
theorem dX10_plan_111 : decode cX10_plan 111 = .ok (.goto (-57), 3) := by decide +kernel
theorem dX10_plan_114 : decode cX10_plan 114 = .ok (.aload_n 0, 1) := by decide +kernel
theorem dX10_plan_115 : decode cX10_plan 115 = .ok (.iconst 0, 1) := by decide +kernel
theorem dX10_plan_116 : decode cX10_plan 116 = .ok (.putfield 279, 3) := by decide +kernel
theorem dX10_plan_119 : decode cX10_plan 119 = .ok (.iload_n 1, 1) := by decide +kernel
theorem dX10_plan_120 : decode cX10_plan 120 = .ok (.ifCond .ne 7, 3) := by decide +kernel
theorem dX10_plan_123 : decode cX10_plan 123 = .ok (.iconst 0, 1) := by decide +kernel
theorem dX10_plan_124 : decode cX10_plan 124 = .ok (.goto 14, 3) := by decide +kernel
theorem dX10_plan_127 : decode cX10_plan 127 = .ok (.aload_n 0, 1) := by decide +kernel
theorem dX10_plan_128 : decode cX10_plan 128 = .ok (.getfield 124, 3) := by decide +kernel
theorem dX10_plan_131 : decode cX10_plan 131 = .ok (.iconst 0, 1) := by decide +kernel
theorem dX10_plan_132 : decode cX10_plan 132 = .ok (.iconst 0, 1) := by decide +kernel
theorem dX10_plan_133 : decode cX10_plan 133 = .ok (.iconst 0, 1) := by decide +kernel
theorem dX10_plan_134 : decode cX10_plan 134 = .ok (.invokestatic 282, 3) := by decide +kernel
theorem dX10_plan_137 : decode cX10_plan 137 = .ok (.iaload, 1) := by decide +kernel
theorem dX10_plan_138 : decode cX10_plan 138 = .ok (.ireturn, 1) := by decide +kernel
theorem dX10_count_0 : decode cX10_count 0 = .ok (.aload_n 0, 1) := by decide +kernel
theorem dX10_count_1 : decode cX10_count 1 = .ok (.iconst 0, 1) := by decide +kernel
theorem dX10_count_2 : decode cX10_count 2 = .ok (.putfield 127, 3) := by decide +kernel
theorem dX10_count_5 : decode cX10_count 5 = .ok (.iconst 0, 1) := by decide +kernel
theorem dX10_count_6 : decode cX10_count 6 = .ok (.istore_n 2, 1) := by decide +kernel
theorem dX10_count_7 : decode cX10_count 7 = .ok (.iload_n 1, 1) := by decide +kernel
theorem dX10_count_8 : decode cX10_count 8 = .ok (.tableswitch 127 0 8 #[52, 57, 62, 67, 102, 107, 112, 117, 122], 52) := by decide +kernel
theorem dX10_count_60 : decode cX10_count 60 = .ok (.aload_n 0, 1) := by decide +kernel
theorem dX10_count_61 : decode cX10_count 61 = .ok (.getfield 148, 3) := by decide +kernel
theorem dX10_count_64 : decode cX10_count 64 = .ok (.ireturn, 1) := by decide +kernel
theorem dX10_count_65 : decode cX10_count 65 = .ok (.aload_n 0, 1) := by decide +kernel
theorem dX10_count_66 : decode cX10_count 66 = .ok (.getfield 130, 3) := by decide +kernel
theorem dX10_count_69 : decode cX10_count 69 = .ok (.ireturn, 1) := by decide +kernel
theorem dX10_count_70 : decode cX10_count 70 = .ok (.aload_n 0, 1) := by decide +kernel
theorem dX10_count_71 : decode cX10_count 71 = .ok (.getfield 166, 3) := by decide +kernel
theorem dX10_count_74 : decode cX10_count 74 = .ok (.ireturn, 1) := by decide +kernel
theorem dX10_count_75 : decode cX10_count 75 = .ok (.iconst 0, 1) := by decide +kernel
theorem dX10_count_76 : decode cX10_count 76 = .ok (.istore_n 3, 1) := by decide +kernel
theorem dX10_count_77 : decode cX10_count 77 = .ok (.iload_n 3, 1) := by decide +kernel
theorem dX10_count_78 : decode cX10_count 78 = .ok (.aload_n 0, 1) := by decide +kernel
theorem dX10_count_79 : decode cX10_count 79 = .ok (.getfield 166, 3) := by decide +kernel
theorem dX10_count_82 : decode cX10_count 82 = .ok (.if_icmp .ge 26, 3) := by decide +kernel
theorem dX10_count_85 : decode cX10_count 85 = .ok (.iload_n 2, 1) := by decide +kernel
theorem dX10_count_86 : decode cX10_count 86 = .ok (.aload_n 0, 1) := by decide +kernel
theorem dX10_count_87 : decode cX10_count 87 = .ok (.getfield 73, 3) := by decide +kernel
theorem dX10_count_90 : decode cX10_count 90 = .ok (.iload_n 3, 1) := by decide +kernel
theorem dX10_count_91 : decode cX10_count 91 = .ok (.iaload, 1) := by decide +kernel
theorem dX10_count_92 : decode cX10_count 92 = .ok (.ifCond .le 7, 3) := by decide +kernel
theorem dX10_count_95 : decode cX10_count 95 = .ok (.iconst 1, 1) := by decide +kernel
theorem dX10_count_96 : decode cX10_count 96 = .ok (.goto 4, 3) := by decide +kernel
theorem dX10_count_99 : decode cX10_count 99 = .ok (.iconst 0, 1) := by decide +kernel
theorem dX10_count_100 : decode cX10_count 100 = .ok (.iadd, 1) := by decide +kernel
theorem dX10_count_101 : decode cX10_count 101 = .ok (.istore_n 2, 1) := by decide +kernel
theorem dX10_count_102 : decode cX10_count 102 = .ok (.iinc 3 1, 3) := by decide +kernel
theorem dX10_count_105 : decode cX10_count 105 = .ok (.goto (-28), 3) := by decide +kernel
