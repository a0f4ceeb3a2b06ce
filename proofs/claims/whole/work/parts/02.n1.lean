theorem dX4_init_0 : decode cX4_init 0 = .ok (.aload_n 0, 1) := by decide +kernel
theorem dX4_init_1 : decode cX4_init 1 = .ok (.invokespecial 3, 3) := by decide +kernel
theorem dX4_init_4 : decode cX4_init 4 = .ok (.aload_n 0, 1) := by decide +kernel
theorem dX4_init_5 : decode cX4_init 5 = .ok (.new 9, 3) := by decide +kernel
theorem dX4_init_8 : decode cX4_init 8 = .ok (.dup, 1) := by decide +kernel
theorem dX4_init_9 : decode cX4_init 9 = .ok (.invokespecial 11, 3) := by decide +kernel
theorem dX4_init_12 : decode cX4_init 12 = .ok (.putfield 12, 3) := by decide +kernel
theorem dX4_init_15 : decode cX4_init 15 = .ok (.aload_n 0, 1) := by decide +kernel
theorem dX4_init_16 : decode cX4_init 16 = .ok (.bipush 40, 2) := by decide +kernel
theorem dX4_init_18 : decode cX4_init 18 = .ok (.newarray .int, 2) := by decide +kernel
theorem dX4_init_20 : decode cX4_init 20 = .ok (.putfield 18, 3) := by decide +kernel
theorem dX4_init_23 : decode cX4_init 23 = .ok (.aload_n 0, 1) := by decide +kernel
theorem dX4_init_24 : decode cX4_init 24 = .ok (.bipush 40, 2) := by decide +kernel
theorem dX4_init_26 : decode cX4_init 26 = .ok (.newarray .int, 2) := by decide +kernel
theorem dX4_init_28 : decode cX4_init 28 = .ok (.putfield 22, 3) := by decide +kernel
theorem dX4_init_31 : decode cX4_init 31 = .ok (.aload_n 0, 1) := by decide +kernel
theorem dX4_init_32 : decode cX4_init 32 = .ok (.bipush 40, 2) := by decide +kernel
theorem dX4_init_34 : decode cX4_init 34 = .ok (.newarray .int, 2) := by decide +kernel
theorem dX4_init_36 : decode cX4_init 36 = .ok (.putfield 25, 3) := by decide +kernel
theorem dX4_init_39 : decode cX4_init 39 = .ok (.return_, 1) := by decide +kernel
set_option maxRecDepth 20000 in
theorem ggX4_readTape_J7_fill_53178 : GoodIn wsX4_readTape wsJ7_fill_53178 := goodIn_r _ [8] (by decide +kernel) (by decide +kernel)
set_option maxRecDepth 20000 in
theorem gX4_readTape_J7_fill_53178 : GoodIn wsX4_readTape (va_wsS RX4 28 yJ7_fill_53178 wsJ7_fill_53178) := goodIn_app (goodIn_of _ (by decide +kernel)) ggX4_readTape_J7_fill_53178
set_option maxRecDepth 20000 in
theorem ggX4_readTape_X5_rewind : GoodIn wsX4_readTape wsX5_rewind := goodIn_r _ [13, 14, 134, 135, 136, 137, 138] (by decide +kernel) (by decide +kernel)
set_option maxRecDepth 20000 in
theorem gX4_readTape_X5_rewind : GoodIn wsX4_readTape (wsV RX4 38 RX5 yX5_rewind wsX5_rewind) := goodIn_app (goodIn_of _ (by decide +kernel)) ggX4_readTape_X5_rewind
set_option maxRecDepth 20000 in
theorem ggX4_readTape_X5_readToken : GoodIn wsX4_readTape wsX5_readToken := goodIn_r _ [18, 14, 19, 20, 21, 22, 23, 24, 12, 25, 26, 27, 28, 29, 30, 31, 32, 33, 34, 35, 36, 37, 38, 39, 134, 135, 136, 137, 138] (by decide +kernel) (by decide +kernel)
set_option maxRecDepth 20000 in
theorem gX4_readTape_X5_readToken : GoodIn wsX4_readTape (wsV RX4 41 RX5 yX5_readToken wsX5_readToken) := goodIn_app (goodIn_of _ (by decide +kernel)) ggX4_readTape_X5_readToken
set_option maxRecDepth 20000 in
theorem ggX4_readTape_X4_readContract : GoodIn wsX4_readTape wsX4_readContract := goodIn_r _ [44, 3, 1, 45, 46, 47, 48, 49, 12, 50, 22, 14, 19, 21, 51, 52, 53, 54, 55, 56, 57, 58, 59, 60, 61, 62, 63, 64, 65, 66, 67, 68, 69, 70, 71, 72, 73, 74, 75, 76, 77, 78, 79, 80, 81, 82, 83, 84, 85, 86, 87, 88, 89, 90, 91, 92, 93, 94, 95, 96, 97, 98, 99, 100, 101, 102, 43, 103, 104, 105, 106, 107, 108, 109, 110, 4, 15, 16, 17, 18, 20, 23, 24, 25, 26, 27, 28, 29, 30, 31, 32, 33, 34, 35, 36, 37, 38, 39, 111, 112, 113, 114, 115, 116, 117, 118, 119, 120, 121, 122, 123, 124, 125, 126, 127, 128, 129, 130, 131, 132, 133, 134, 135, 136, 137, 138] (by decide +kernel) (by decide +kernel)
set_option maxRecDepth 20000 in
theorem gX4_readTape_X4_readContract : GoodIn wsX4_readTape (wsV RX4 47 RX4 yX4_readContract wsX4_readContract) := goodIn_app (goodIn_of _ (by decide +kernel)) ggX4_readTape_X4_readContract
theorem dX4_readTape_0 : decode cX4_readTape 0 = .ok (.aload_n 0, 1) := by decide +kernel
theorem dX4_readTape_1 : decode cX4_readTape 1 = .ok (.getfield 18, 3) := by decide +kernel
theorem dX4_readTape_4 : decode cX4_readTape 4 = .ok (.iconst 0, 1) := by decide +kernel
theorem dX4_readTape_5 : decode cX4_readTape 5 = .ok (.invokestatic 28, 3) := by decide +kernel
theorem dX4_readTape_8 : decode cX4_readTape 8 = .ok (.aload_n 0, 1) := by decide +kernel
theorem dX4_readTape_9 : decode cX4_readTape 9 = .ok (.iconst 0, 1) := by decide +kernel
theorem dX4_readTape_10 : decode cX4_readTape 10 = .ok (.putfield 34, 3) := by decide +kernel
theorem dX4_readTape_13 : decode cX4_readTape 13 = .ok (.aload_n 0, 1) := by decide +kernel
theorem dX4_readTape_14 : decode cX4_readTape 14 = .ok (.getfield 12, 3) := by decide +kernel
theorem dX4_readTape_17 : decode cX4_readTape 17 = .ok (.invokevirtual 38, 3) := by decide +kernel
theorem dX4_readTape_20 : decode cX4_readTape 20 = .ok (.aload_n 0, 1) := by decide +kernel
theorem dX4_readTape_21 : decode cX4_readTape 21 = .ok (.getfield 12, 3) := by decide +kernel
theorem dX4_readTape_24 : decode cX4_readTape 24 = .ok (.invokevirtual 41, 3) := by decide +kernel
theorem dX4_readTape_27 : decode cX4_readTape 27 = .ok (.aload_n 0, 1) := by decide +kernel
theorem dX4_readTape_28 : decode cX4_readTape 28 = .ok (.getfield 12, 3) := by decide +kernel
theorem dX4_readTape_31 : decode cX4_readTape 31 = .ok (.getfield 44, 3) := by decide +kernel
theorem dX4_readTape_34 : decode cX4_readTape 34 = .ok (.ifCond .eq 43, 3) := by decide +kernel
theorem dX4_readTape_37 : decode cX4_readTape 37 = .ok (.aload_n 0, 1) := by decide +kernel
theorem dX4_readTape_38 : decode cX4_readTape 38 = .ok (.getfield 34, 3) := by decide +kernel
theorem dX4_readTape_41 : decode cX4_readTape 41 = .ok (.sipush 300, 3) := by decide +kernel
theorem dX4_readTape_44 : decode cX4_readTape 44 = .ok (.if_icmp .gt 33, 3) := by decide +kernel
theorem dX4_readTape_47 : decode cX4_readTape 47 = .ok (.aload_n 0, 1) := by decide +kernel
theorem dX4_readTape_48 : decode cX4_readTape 48 = .ok (.iload_n 1, 1) := by decide +kernel
theorem dX4_readTape_49 : decode cX4_readTape 49 = .ok (.invokevirtual 47, 3) := by decide +kernel
theorem dX4_readTape_52 : decode cX4_readTape 52 = .ok (.ifCond .ne 5, 3) := by decide +kernel
theorem dX4_readTape_55 : decode cX4_readTape 55 = .ok (.iconst 0, 1) := by decide +kernel
theorem dX4_readTape_56 : decode cX4_readTape 56 = .ok (.ireturn, 1) := by decide +kernel
theorem dX4_readTape_57 : decode cX4_readTape 57 = .ok (.aload_n 0, 1) := by decide +kernel
theorem dX4_readTape_58 : decode cX4_readTape 58 = .ok (.dup, 1) := by decide +kernel
theorem dX4_readTape_59 : decode cX4_readTape 59 = .ok (.getfield 34, 3) := by decide +kernel
theorem dX4_readTape_62 : decode cX4_readTape 62 = .ok (.iconst 1, 1) := by decide +kernel
theorem dX4_readTape_63 : decode cX4_readTape 63 = .ok (.iadd, 1) := by decide +kernel
theorem dX4_readTape_64 : decode cX4_readTape 64 = .ok (.putfield 34, 3) := by decide +kernel
theorem dX4_readTape_67 : decode cX4_readTape 67 = .ok (.aload_n 0, 1) := by decide +kernel
theorem dX4_readTape_68 : decode cX4_readTape 68 = .ok (.getfield 12, 3) := by decide +kernel
theorem dX4_readTape_71 : decode cX4_readTape 71 = .ok (.invokevirtual 41, 3) := by decide +kernel
theorem dX4_readTape_74 : decode cX4_readTape 74 = .ok (.goto (-47), 3) := by decide +kernel
theorem dX4_readTape_77 : decode cX4_readTape 77 = .ok (.iconst 1, 1) := by decide +kernel
theorem dX4_readTape_78 : decode cX4_readTape 78 = .ok (.ireturn, 1) := by decide +kernel
set_option maxRecDepth 20000 in
theorem ggX4_readContract_X5_isName : GoodIn wsX4_readContract wsX5_isName := goodIn_r _ [9, 10, 11, 12, 13, 14, 15, 16, 17, 18, 19, 20, 21, 22, 23, 24, 25, 26, 27, 28, 29, 30, 31, 32, 33, 34, 35, 36, 37, 38, 39, 40, 41, 42, 43, 44, 45, 46, 47, 48, 49, 50, 51, 52, 53, 54, 55, 56, 57, 58, 59, 60, 61, 62, 121, 122, 123, 124, 125] (by decide +kernel) (by decide +kernel)
set_option maxRecDepth 20000 in
theorem gX4_readContract_X5_isName : GoodIn wsX4_readContract (wsV RX4 53 RX5 yX5_isName wsX5_isName) := goodIn_app (goodIn_of _ (by decide +kernel)) ggX4_readContract_X5_isName
set_option maxRecDepth 20000 in
theorem ggX4_readContract_X4_refuse : GoodIn wsX4_readContract wsX4_refuse := goodIn_r _ [67, 68, 1, 69, 70, 114, 115, 116, 117, 118, 119, 120, 121, 122, 123, 124, 125] (by decide +kernel) (by decide +kernel)
set_option maxRecDepth 20000 in
theorem gX4_readContract_X4_refuse : GoodIn wsX4_readContract (wsV RX4 57 RX4 yX4_refuse wsX4_refuse) := goodIn_app (goodIn_of _ (by decide +kernel)) ggX4_readContract_X4_refuse
set_option maxRecDepth 20000 in
theorem ggX4_readContract_X4_readNumber : GoodIn wsX4_readContract wsX4_readNumber := goodIn_r _ [74, 1, 75, 76, 77, 78, 8, 79, 11, 12, 80, 13, 10, 81, 82, 83, 84, 85, 86, 87, 88, 89, 90, 91, 92, 93, 94, 95, 96, 97, 63, 64, 65, 66, 67, 68, 69, 70, 114, 115, 116, 117, 118, 119, 120, 121, 122, 123, 124, 125] (by decide +kernel) (by decide +kernel)
set_option maxRecDepth 20000 in
theorem gX4_readContract_X4_readNumber : GoodIn wsX4_readContract (wsV RX4 60 RX4 yX4_readNumber wsX4_readNumber) := goodIn_app (goodIn_of _ (by decide +kernel)) ggX4_readContract_X4_readNumber
set_option maxRecDepth 20000 in
theorem ggX4_readContract_X5_numberValue : GoodIn wsX4_readContract wsX5_numberValue := goodIn_r _ [101, 12, 11, 13, 121, 122, 123, 124, 125] (by decide +kernel) (by decide +kernel)
set_option maxRecDepth 20000 in
theorem gX4_readContract_X5_numberValue : GoodIn wsX4_readContract (wsV RX4 64 RX5 yX5_numberValue wsX5_numberValue) := goodIn_app (goodIn_of _ (by decide +kernel)) ggX4_readContract_X5_numberValue
set_option maxRecDepth 20000 in
theorem ggX4_readContract_X5_readToken : GoodIn wsX4_readContract wsX5_readToken := goodIn_r _ [79, 11, 12, 80, 13, 10, 81, 82, 8, 83, 84, 85, 86, 87, 88, 89, 90, 91, 92, 93, 94, 95, 96, 97, 121, 122, 123, 124, 125] (by decide +kernel) (by decide +kernel)
set_option maxRecDepth 20000 in
theorem gX4_readContract_X5_readToken : GoodIn wsX4_readContract (wsV RX4 41 RX5 yX5_readToken wsX5_readToken) := goodIn_app (goodIn_of _ (by decide +kernel)) ggX4_readContract_X5_readToken
set_option maxRecDepth 20000 in
theorem ggX4_readContract_X4_namedTerms : GoodIn wsX4_readContract wsX4_namedTerms := goodIn_r _ [105, 1, 5, 6, 7, 8, 9, 10, 11, 12, 13, 14, 15, 16, 17, 18, 19, 20, 21, 22, 23, 24, 25, 26, 27, 28, 29, 30, 31, 32, 33, 34, 35, 36, 37, 38, 39, 40, 41, 42, 43, 44, 45, 46, 47, 48, 49, 50, 51, 52, 53, 54, 55, 56, 57, 58, 59, 60, 61, 62, 114, 115, 116, 117, 118, 119, 120, 121, 122, 123, 124, 125] (by decide +kernel) (by decide +kernel)
set_option maxRecDepth 20000 in
theorem gX4_readContract_X4_namedTerms : GoodIn wsX4_readContract (wsV RX4 68 RX4 yX4_namedTerms wsX4_namedTerms) := goodIn_app (goodIn_of _ (by decide +kernel)) ggX4_readContract_X4_namedTerms
set_option maxRecDepth 20000 in
theorem ggX4_readContract_X4_readSign : GoodIn wsX4_readContract wsX4_readSign := goodIn_r _ [109, 1, 76, 77, 78, 8, 79, 11, 12, 80, 13, 10, 81, 82, 83, 84, 85, 86, 87, 88, 89, 90, 91, 92, 93, 94, 95, 96, 97, 110, 111, 112, 113, 63, 64, 65, 66, 67, 68, 69, 70, 114, 115, 116, 117, 118, 119, 120, 121, 122, 123, 124, 125] (by decide +kernel) (by decide +kernel)
set_option maxRecDepth 20000 in
theorem gX4_readContract_X4_readSign : GoodIn wsX4_readContract (wsV RX4 71 RX4 yX4_readSign wsX4_readSign) := goodIn_app (goodIn_of _ (by decide +kernel)) ggX4_readContract_X4_readSign
theorem dX4_readContract_0 : decode cX4_readContract 0 = .ok (.aload_n 0, 1) := by decide +kernel
theorem dX4_readContract_1 : decode cX4_readContract 1 = .ok (.getfield 12, 3) := by decide +kernel
theorem dX4_readContract_4 : decode cX4_readContract 4 = .ok (.ldc 51, 2) := by decide +kernel
theorem dX4_readContract_6 : decode cX4_readContract 6 = .ok (.invokevirtual 53, 3) := by decide +kernel
theorem dX4_readContract_9 : decode cX4_readContract 9 = .ok (.ifCond .ne 9, 3) := by decide +kernel
theorem dX4_readContract_12 : decode cX4_readContract 12 = .ok (.aload_n 0, 1) := by decide +kernel
theorem dX4_readContract_13 : decode cX4_readContract 13 = .ok (.iconst 1, 1) := by decide +kernel
theorem dX4_readContract_14 : decode cX4_readContract 14 = .ok (.invokevirtual 57, 3) := by decide +kernel
theorem dX4_readContract_17 : decode cX4_readContract 17 = .ok (.ireturn, 1) := by decide +kernel
theorem dX4_readContract_18 : decode cX4_readContract 18 = .ok (.aload_n 0, 1) := by decide +kernel
theorem dX4_readContract_19 : decode cX4_readContract 19 = .ok (.invokevirtual 60, 3) := by decide +kernel
theorem dX4_readContract_22 : decode cX4_readContract 22 = .ok (.ifCond .ne 5, 3) := by decide +kernel
theorem dX4_readContract_25 : decode cX4_readContract 25 = .ok (.iconst 0, 1) := by decide +kernel
theorem dX4_readContract_26 : decode cX4_readContract 26 = .ok (.ireturn, 1) := by decide +kernel
theorem dX4_readContract_27 : decode cX4_readContract 27 = .ok (.aload_n 0, 1) := by decide +kernel
theorem dX4_readContract_28 : decode cX4_readContract 28 = .ok (.getfield 12, 3) := by decide +kernel
theorem dX4_readContract_31 : decode cX4_readContract 31 = .ok (.invokevirtual 64, 3) := by decide +kernel
theorem dX4_readContract_34 : decode cX4_readContract 34 = .ok (.istore_n 2, 1) := by decide +kernel
theorem dX4_readContract_35 : decode cX4_readContract 35 = .ok (.iload_n 2, 1) := by decide +kernel
theorem dX4_readContract_36 : decode cX4_readContract 36 = .ok (.iload_n 1, 1) := by decide +kernel
theorem dX4_readContract_37 : decode cX4_readContract 37 = .ok (.if_icmp .ge 9, 3) := by decide +kernel
theorem dX4_readContract_40 : decode cX4_readContract 40 = .ok (.iload_n 2, 1) := by decide +kernel
theorem dX4_readContract_41 : decode cX4_readContract 41 = .ok (.bipush 40, 2) := by decide +kernel
theorem dX4_readContract_43 : decode cX4_readContract 43 = .ok (.if_icmp .lt 9, 3) := by decide +kernel
theorem dX4_readContract_46 : decode cX4_readContract 46 = .ok (.aload_n 0, 1) := by decide +kernel
theorem dX4_readContract_47 : decode cX4_readContract 47 = .ok (.iconst 2, 1) := by decide +kernel
theorem dX4_readContract_48 : decode cX4_readContract 48 = .ok (.invokevirtual 57, 3) := by decide +kernel
theorem dX4_readContract_51 : decode cX4_readContract 51 = .ok (.ireturn, 1) := by decide +kernel
theorem dX4_readContract_52 : decode cX4_readContract 52 = .ok (.aload_n 0, 1) := by decide +kernel
theorem dX4_readContract_53 : decode cX4_readContract 53 = .ok (.getfield 12, 3) := by decide +kernel
theorem dX4_readContract_56 : decode cX4_readContract 56 = .ok (.invokevirtual 41, 3) := by decide +kernel
theorem dX4_readContract_59 : decode cX4_readContract 59 = .ok (.aload_n 0, 1) := by decide +kernel
theorem dX4_readContract_60 : decode cX4_readContract 60 = .ok (.invokevirtual 68, 3) := by decide +kernel
theorem dX4_readContract_63 : decode cX4_readContract 63 = .ok (.istore_n 3, 1) := by decide +kernel
theorem dX4_readContract_64 : decode cX4_readContract 64 = .ok (.iload_n 3, 1) := by decide +kernel
theorem dX4_readContract_65 : decode cX4_readContract 65 = .ok (.ifCond .ne 9, 3) := by decide +kernel
theorem dX4_readContract_68 : decode cX4_readContract 68 = .ok (.aload_n 0, 1) := by decide +kernel
theorem dX4_readContract_69 : decode cX4_readContract 69 = .ok (.iconst 1, 1) := by decide +kernel
theorem dX4_readContract_70 : decode cX4_readContract 70 = .ok (.invokevirtual 57, 3) := by decide +kernel
theorem dX4_readContract_73 : decode cX4_readContract 73 = .ok (.ireturn, 1) := by decide +kernel
theorem dX4_readContract_74 : decode cX4_readContract 74 = .ok (.iconst 0, 1) := by decide +kernel
theorem dX4_readContract_75 : decode cX4_readContract 75 = .ok (.istore 4, 2) := by decide +kernel
theorem dX4_readContract_77 : decode cX4_readContract 77 = .ok (.iload_n 3, 1) := by decide +kernel
theorem dX4_readContract_78 : decode cX4_readContract 78 = .ok (.iconst 3, 1) := by decide +kernel
theorem dX4_readContract_79 : decode cX4_readContract 79 = .ok (.if_icmp .ne 30, 3) := by decide +kernel
theorem dX4_readContract_82 : decode cX4_readContract 82 = .ok (.aload_n 0, 1) := by decide +kernel
theorem dX4_readContract_83 : decode cX4_readContract 83 = .ok (.bipush 60, 2) := by decide +kernel
theorem dX4_readContract_85 : decode cX4_readContract 85 = .ok (.invokevirtual 71, 3) := by decide +kernel
theorem dX4_readContract_88 : decode cX4_readContract 88 = .ok (.ifCond .eq 10, 3) := by decide +kernel
theorem dX4_readContract_91 : decode cX4_readContract 91 = .ok (.aload_n 0, 1) := by decide +kernel
theorem dX4_readContract_92 : decode cX4_readContract 92 = .ok (.invokevirtual 60, 3) := by decide +kernel
theorem dX4_readContract_95 : decode cX4_readContract 95 = .ok (.ifCond .ne 5, 3) := by decide +kernel
theorem dX4_readContract_98 : decode cX4_readContract 98 = .ok (.iconst 0, 1) := by decide +kernel
theorem dX4_readContract_99 : decode cX4_readContract 99 = .ok (.ireturn, 1) := by decide +kernel
theorem dX4_readContract_100 : decode cX4_readContract 100 = .ok (.aload_n 0, 1) := by decide +kernel
theorem dX4_readContract_101 : decode cX4_readContract 101 = .ok (.getfield 12, 3) := by decide +kernel
theorem dX4_readContract_104 : decode cX4_readContract 104 = .ok (.invokevirtual 64, 3) := by decide +kernel
theorem dX4_readContract_107 : decode cX4_readContract 107 = .ok (.istore 4, 2) := by decide +kernel
theorem dX4_readContract_109 : decode cX4_readContract 109 = .ok (.aload_n 0, 1) := by decide +kernel
theorem dX4_readContract_110 : decode cX4_readContract 110 = .ok (.invokevirtual 60, 3) := by decide +kernel
theorem dX4_readContract_113 : decode cX4_readContract 113 = .ok (.ifCond .ne 5, 3) := by decide +kernel
theorem dX4_readContract_116 : decode cX4_readContract 116 = .ok (.iconst 0, 1) := by decide +kernel
theorem dX4_readContract_117 : decode cX4_readContract 117 = .ok (.ireturn, 1) := by decide +kernel
theorem dX4_readContract_118 : decode cX4_readContract 118 = .ok (.aload_n 0, 1) := by decide +kernel
theorem dX4_readContract_119 : decode cX4_readContract 119 = .ok (.getfield 12, 3) := by decide +kernel
theorem dX4_readContract_122 : decode cX4_readContract 122 = .ok (.invokevirtual 64, 3) := by decide +kernel
theorem dX4_readContract_125 : decode cX4_readContract 125 = .ok (.istore 5, 2) := by decide +kernel
theorem dX4_readContract_127 : decode cX4_readContract 127 = .ok (.aload_n 0, 1) := by decide +kernel
theorem dX4_readContract_128 : decode cX4_readContract 128 = .ok (.bipush 59, 2) := by decide +kernel
theorem dX4_readContract_130 : decode cX4_readContract 130 = .ok (.invokevirtual 71, 3) := by decide +kernel
theorem dX4_readContract_133 : decode cX4_readContract 133 = .ok (.ifCond .ne 5, 3) := by decide +kernel
theorem dX4_readContract_136 : decode cX4_readContract 136 = .ok (.iconst 0, 1) := by decide +kernel
theorem dX4_readContract_137 : decode cX4_readContract 137 = .ok (.ireturn, 1) := by decide +kernel
theorem dX4_readContract_138 : decode cX4_readContract 138 = .ok (.aload_n 0, 1) := by decide +kernel
theorem dX4_readContract_139 : decode cX4_readContract 139 = .ok (.getfield 18, 3) := by decide +kernel
theorem dX4_readContract_142 : decode cX4_readContract 142 = .ok (.iload_n 2, 1) := by decide +kernel
theorem dX4_readContract_143 : decode cX4_readContract 143 = .ok (.iload_n 3, 1) := by decide +kernel
theorem dX4_readContract_144 : decode cX4_readContract 144 = .ok (.iastore, 1) := by decide +kernel
theorem dX4_readContract_145 : decode cX4_readContract 145 = .ok (.aload_n 0, 1) := by decide +kernel
theorem dX4_readContract_146 : decode cX4_readContract 146 = .ok (.getfield 22, 3) := by decide +kernel
theorem dX4_readContract_149 : decode cX4_readContract 149 = .ok (.iload_n 2, 1) := by decide +kernel
theorem dX4_readContract_150 : decode cX4_readContract 150 = .ok (.iload 4, 2) := by decide +kernel
theorem dX4_readContract_152 : decode cX4_readContract 152 = .ok (.iastore, 1) := by decide +kernel
theorem dX4_readContract_153 : decode cX4_readContract 153 = .ok (.aload_n 0, 1) := by decide +kernel
theorem dX4_readContract_154 : decode cX4_readContract 154 = .ok (.getfield 25, 3) := by decide +kernel
theorem dX4_readContract_157 : decode cX4_readContract 157 = .ok (.iload_n 2, 1) := by decide +kernel
theorem dX4_readContract_158 : decode cX4_readContract 158 = .ok (.iload 5, 2) := by decide +kernel
theorem dX4_readContract_160 : decode cX4_readContract 160 = .ok (.iastore, 1) := by decide +kernel
theorem dX4_readContract_161 : decode cX4_readContract 161 = .ok (.iconst 1, 1) := by decide +kernel
theorem dX4_readContract_162 : decode cX4_readContract 162 = .ok (.ireturn, 1) := by decide +kernel
set_option maxRecDepth 20000 in
theorem ggX4_namedTerms_X5_isName : GoodIn wsX4_namedTerms wsX5_isName := goodIn_r _ [6, 7, 8, 9, 10, 11, 12, 13, 14, 15, 16, 17, 18, 19, 20, 21, 22, 23, 24, 25, 26, 27, 28, 29, 30, 31, 32, 33, 34, 35, 36, 37, 38, 39, 40, 41, 42, 43, 44, 45, 46, 47, 48, 49, 50, 51, 52, 53, 54, 55, 56, 57, 58, 59, 67, 68, 69, 70, 71] (by decide +kernel) (by decide +kernel)
set_option maxRecDepth 20000 in
theorem gX4_namedTerms_X5_isName : GoodIn wsX4_namedTerms (wsV RX4 53 RX5 yX5_isName wsX5_isName) := goodIn_app (goodIn_of _ (by decide +kernel)) ggX4_namedTerms_X5_isName
theorem dX4_namedTerms_0 : decode cX4_namedTerms 0 = .ok (.aload_n 0, 1) := by decide +kernel
theorem dX4_namedTerms_1 : decode cX4_namedTerms 1 = .ok (.getfield 12, 3) := by decide +kernel
theorem dX4_namedTerms_4 : decode cX4_namedTerms 4 = .ok (.ldc 75, 2) := by decide +kernel
theorem dX4_namedTerms_6 : decode cX4_namedTerms 6 = .ok (.invokevirtual 53, 3) := by decide +kernel
theorem dX4_namedTerms_9 : decode cX4_namedTerms 9 = .ok (.ifCond .eq 5, 3) := by decide +kernel
theorem dX4_namedTerms_12 : decode cX4_namedTerms 12 = .ok (.iconst 1, 1) := by decide +kernel
theorem dX4_namedTerms_13 : decode cX4_namedTerms 13 = .ok (.ireturn, 1) := by decide +kernel
theorem dX4_namedTerms_14 : decode cX4_namedTerms 14 = .ok (.aload_n 0, 1) := by decide +kernel
theorem dX4_namedTerms_15 : decode cX4_namedTerms 15 = .ok (.getfield 12, 3) := by decide +kernel
theorem dX4_namedTerms_18 : decode cX4_namedTerms 18 = .ok (.ldc 77, 2) := by decide +kernel
theorem dX4_namedTerms_20 : decode cX4_namedTerms 20 = .ok (.invokevirtual 53, 3) := by decide +kernel
theorem dX4_namedTerms_23 : decode cX4_namedTerms 23 = .ok (.ifCond .eq 5, 3) := by decide +kernel
theorem dX4_namedTerms_26 : decode cX4_namedTerms 26 = .ok (.iconst 2, 1) := by decide +kernel
theorem dX4_namedTerms_27 : decode cX4_namedTerms 27 = .ok (.ireturn, 1) := by decide +kernel
theorem dX4_namedTerms_28 : decode cX4_namedTerms 28 = .ok (.aload_n 0, 1) := by decide +kernel
theorem dX4_namedTerms_29 : decode cX4_namedTerms 29 = .ok (.getfield 12, 3) := by decide +kernel
theorem dX4_namedTerms_32 : decode cX4_namedTerms 32 = .ok (.ldc 79, 2) := by decide +kernel
theorem dX4_namedTerms_34 : decode cX4_namedTerms 34 = .ok (.invokevirtual 53, 3) := by decide +kernel
theorem dX4_namedTerms_37 : decode cX4_namedTerms 37 = .ok (.ifCond .eq 7, 3) := by decide +kernel
theorem dX4_namedTerms_40 : decode cX4_namedTerms 40 = .ok (.iconst 3, 1) := by decide +kernel
theorem dX4_namedTerms_41 : decode cX4_namedTerms 41 = .ok (.goto 4, 3) := by decide +kernel
theorem dX4_namedTerms_44 : decode cX4_namedTerms 44 = .ok (.iconst 0, 1) := by decide +kernel
theorem dX4_namedTerms_45 : decode cX4_namedTerms 45 = .ok (.ireturn, 1) := by decide +kernel
set_option maxRecDepth 20000 in
theorem ggX4_readNumber_X5_readToken : GoodIn wsX4_readNumber wsX5_readToken := goodIn_r _ [7, 8, 9, 10, 11, 12, 13, 14, 6, 15, 16, 17, 18, 19, 20, 21, 22, 23, 24, 25, 26, 27, 28, 29, 45, 46, 47, 48, 49] (by decide +kernel) (by decide +kernel)
set_option maxRecDepth 20000 in
theorem gX4_readNumber_X5_readToken : GoodIn wsX4_readNumber (wsV RX4 41 RX5 yX5_readToken wsX5_readToken) := goodIn_app (goodIn_of _ (by decide +kernel)) ggX4_readNumber_X5_readToken
set_option maxRecDepth 20000 in
theorem ggX4_readNumber_X4_refuse : GoodIn wsX4_readNumber wsX4_refuse := goodIn_r _ [34, 35, 1, 36, 37, 38, 39, 40, 41, 42, 43, 44, 45, 46, 47, 48, 49] (by decide +kernel) (by decide +kernel)
set_option maxRecDepth 20000 in
theorem gX4_readNumber_X4_refuse : GoodIn wsX4_readNumber (wsV RX4 57 RX4 yX4_refuse wsX4_refuse) := goodIn_app (goodIn_of _ (by decide +kernel)) ggX4_readNumber_X4_refuse
theorem dX4_readNumber_0 : decode cX4_readNumber 0 = .ok (.aload_n 0, 1) := by decide +kernel
theorem dX4_readNumber_1 : decode cX4_readNumber 1 = .ok (.getfield 12, 3) := by decide +kernel
theorem dX4_readNumber_4 : decode cX4_readNumber 4 = .ok (.invokevirtual 41, 3) := by decide +kernel
theorem dX4_readNumber_7 : decode cX4_readNumber 7 = .ok (.aload_n 0, 1) := by decide +kernel
theorem dX4_readNumber_8 : decode cX4_readNumber 8 = .ok (.getfield 12, 3) := by decide +kernel
theorem dX4_readNumber_11 : decode cX4_readNumber 11 = .ok (.getfield 44, 3) := by decide +kernel
theorem dX4_readNumber_14 : decode cX4_readNumber 14 = .ok (.iconst 2, 1) := by decide +kernel
theorem dX4_readNumber_15 : decode cX4_readNumber 15 = .ok (.if_icmp .eq 11, 3) := by decide +kernel
theorem dX4_readNumber_18 : decode cX4_readNumber 18 = .ok (.aload_n 0, 1) := by decide +kernel
theorem dX4_readNumber_19 : decode cX4_readNumber 19 = .ok (.iconst 1, 1) := by decide +kernel
theorem dX4_readNumber_20 : decode cX4_readNumber 20 = .ok (.invokevirtual 57, 3) := by decide +kernel
theorem dX4_readNumber_23 : decode cX4_readNumber 23 = .ok (.ifCond .eq 7, 3) := by decide +kernel
theorem dX4_readNumber_26 : decode cX4_readNumber 26 = .ok (.iconst 1, 1) := by decide +kernel
theorem dX4_readNumber_27 : decode cX4_readNumber 27 = .ok (.goto 4, 3) := by decide +kernel
theorem dX4_readNumber_30 : decode cX4_readNumber 30 = .ok (.iconst 0, 1) := by decide +kernel
theorem dX4_readNumber_31 : decode cX4_readNumber 31 = .ok (.ireturn, 1) := by decide +kernel
set_option maxRecDepth 20000 in
theorem ggX4_readSign_X5_readToken : GoodIn wsX4_readSign wsX5_readToken := goodIn_r _ [6, 7, 8, 9, 10, 11, 12, 13, 5, 14, 15, 16, 17, 18, 19, 20, 21, 22, 23, 24, 25, 26, 27, 28, 48, 49, 50, 51, 52] (by decide +kernel) (by decide +kernel)
set_option maxRecDepth 20000 in
theorem gX4_readSign_X5_readToken : GoodIn wsX4_readSign (wsV RX4 41 RX5 yX5_readToken wsX5_readToken) := goodIn_app (goodIn_of _ (by decide +kernel)) ggX4_readSign_X5_readToken
set_option maxRecDepth 20000 in
theorem ggX4_readSign_X5_isSign : GoodIn wsX4_readSign wsX5_isSign := goodIn_r _ [32, 11, 10, 8, 48, 49, 50, 51, 52] (by decide +kernel) (by decide +kernel)
set_option maxRecDepth 20000 in
theorem gX4_readSign_X5_isSign : GoodIn wsX4_readSign (wsV RX4 81 RX5 yX5_isSign wsX5_isSign) := goodIn_app (goodIn_of _ (by decide +kernel)) ggX4_readSign_X5_isSign
set_option maxRecDepth 20000 in
theorem ggX4_readSign_X4_refuse : GoodIn wsX4_readSign wsX4_refuse := goodIn_r _ [37, 38, 1, 39, 40, 41, 42, 43, 44, 45, 46, 47, 48, 49, 50, 51, 52] (by decide +kernel) (by decide +kernel)
set_option maxRecDepth 20000 in
theorem gX4_readSign_X4_refuse : GoodIn wsX4_readSign (wsV RX4 57 RX4 yX4_refuse wsX4_refuse) := goodIn_app (goodIn_of _ (by decide +kernel)) ggX4_readSign_X4_refuse
theorem dX4_readSign_0 : decode cX4_readSign 0 = .ok (.aload_n 0, 1) := by decide +kernel
theorem dX4_readSign_1 : decode cX4_readSign 1 = .ok (.getfield 12, 3) := by decide +kernel
theorem dX4_readSign_4 : decode cX4_readSign 4 = .ok (.invokevirtual 41, 3) := by decide +kernel
theorem dX4_readSign_7 : decode cX4_readSign 7 = .ok (.aload_n 0, 1) := by decide +kernel
theorem dX4_readSign_8 : decode cX4_readSign 8 = .ok (.getfield 12, 3) := by decide +kernel
theorem dX4_readSign_11 : decode cX4_readSign 11 = .ok (.iload_n 1, 1) := by decide +kernel
theorem dX4_readSign_12 : decode cX4_readSign 12 = .ok (.invokevirtual 81, 3) := by decide +kernel
theorem dX4_readSign_15 : decode cX4_readSign 15 = .ok (.ifCond .ne 11, 3) := by decide +kernel
theorem dX4_readSign_18 : decode cX4_readSign 18 = .ok (.aload_n 0, 1) := by decide +kernel
theorem dX4_readSign_19 : decode cX4_readSign 19 = .ok (.iconst 1, 1) := by decide +kernel
theorem dX4_readSign_20 : decode cX4_readSign 20 = .ok (.invokevirtual 57, 3) := by decide +kernel
theorem dX4_readSign_23 : decode cX4_readSign 23 = .ok (.ifCond .eq 7, 3) := by decide +kernel
theorem dX4_readSign_26 : decode cX4_readSign 26 = .ok (.iconst 1, 1) := by decide +kernel
theorem dX4_readSign_27 : decode cX4_readSign 27 = .ok (.goto 4, 3) := by decide +kernel
theorem dX4_readSign_30 : decode cX4_readSign 30 = .ok (.iconst 0, 1) := by decide +kernel
theorem dX4_readSign_31 : decode cX4_readSign 31 = .ok (.ireturn, 1) := by decide +kernel
theorem dX4_refuse_0 : decode cX4_refuse 0 = .ok (.aload_n 0, 1) := by decide +kernel
theorem dX4_refuse_1 : decode cX4_refuse 1 = .ok (.iload_n 1, 1) := by decide +kernel
theorem dX4_refuse_2 : decode cX4_refuse 2 = .ok (.putfield 84, 3) := by decide +kernel
theorem dX4_refuse_5 : decode cX4_refuse 5 = .ok (.aload_n 0, 1) := by decide +kernel
theorem dX4_refuse_6 : decode cX4_refuse 6 = .ok (.aload_n 0, 1) := by decide +kernel
theorem dX4_refuse_7 : decode cX4_refuse 7 = .ok (.getfield 12, 3) := by decide +kernel
theorem dX4_refuse_10 : decode cX4_refuse 10 = .ok (.getfield 87, 3) := by decide +kernel
theorem dX4_refuse_13 : decode cX4_refuse 13 = .ok (.putfield 90, 3) := by decide +kernel
theorem dX4_refuse_16 : decode cX4_refuse 16 = .ok (.iconst 0, 1) := by decide +kernel
theorem dX4_refuse_17 : decode cX4_refuse 17 = .ok (.ireturn, 1) := by decide +kernel
set_option maxRecDepth 20000 in
theorem ggX4_putInForce_Jx4a65c_size_8abf5 : GoodIn wsX4_putInForce wsJx4a65c_size_8abf5 := goodIn_r _ [9, 10, 44, 45, 46] (by decide +kernel) (by decide +kernel)
set_option maxRecDepth 20000 in
theorem gX4_putInForce_Jx4a65c_size_8abf5 : GoodIn wsX4_putInForce (wsV RX4 93 RJx4a65c yJx4a65c_size_8abf5 wsJx4a65c_size_8abf5) := goodIn_app (goodIn_of _ (by decide +kernel)) ggX4_putInForce_Jx4a65c_size_8abf5
set_option maxRecDepth 20000 in
theorem ggX4_putInForce_Jx4a65c_get_915e3 : GoodIn wsX4_putInForce wsJx4a65c_get_915e3 := goodIn_r _ [14, 10, 15, 16, 17, 18, 19, 20, 21, 22, 23, 24, 25, 8, 26, 27, 44, 45, 46] (by decide +kernel) (by decide +kernel)
set_option maxRecDepth 20000 in
theorem gX4_putInForce_Jx4a65c_get_915e3 : GoodIn wsX4_putInForce (wsV RX4 98 RJx4a65c yJx4a65c_get_915e3 wsJx4a65c_get_915e3) := goodIn_app (goodIn_of _ (by decide +kernel)) ggX4_putInForce_Jx4a65c_get_915e3
set_option maxRecDepth 20000 in
theorem ggX4_putInForce_X0_begin : GoodIn wsX4_putInForce wsX0_begin := goodIn_r _ [32, 33, 34, 35, 36, 47, 48, 49, 50, 51, 52, 53, 54, 55, 56, 57, 58] (by decide +kernel) (by decide +kernel)
set_option maxRecDepth 20000 in
theorem gX4_putInForce_X0_begin : GoodIn wsX4_putInForce (wsV RX4 104 RX0 yX0_begin wsX0_begin) := goodIn_app (goodIn_of _ (by decide +kernel)) ggX4_putInForce_X0_begin
theorem dX4_putInForce_0 : decode cX4_putInForce 0 = .ok (.iconst 0, 1) := by decide +kernel
theorem dX4_putInForce_1 : decode cX4_putInForce 1 = .ok (.istore_n 2, 1) := by decide +kernel
theorem dX4_putInForce_2 : decode cX4_putInForce 2 = .ok (.iload_n 2, 1) := by decide +kernel
theorem dX4_putInForce_3 : decode cX4_putInForce 3 = .ok (.aload_n 1, 1) := by decide +kernel
theorem dX4_putInForce_4 : decode cX4_putInForce 4 = .ok (.invokevirtual 93, 3) := by decide +kernel
theorem dX4_putInForce_7 : decode cX4_putInForce 7 = .ok (.if_icmp .ge 53, 3) := by decide +kernel
theorem dX4_putInForce_10 : decode cX4_putInForce 10 = .ok (.iload_n 2, 1) := by decide +kernel
theorem dX4_putInForce_11 : decode cX4_putInForce 11 = .ok (.bipush 40, 2) := by decide +kernel
theorem dX4_putInForce_13 : decode cX4_putInForce 13 = .ok (.if_icmp .ge 47, 3) := by decide +kernel
theorem dX4_putInForce_16 : decode cX4_putInForce 16 = .ok (.aload_n 0, 1) := by decide +kernel
theorem dX4_putInForce_17 : decode cX4_putInForce 17 = .ok (.getfield 18, 3) := by decide +kernel
theorem dX4_putInForce_20 : decode cX4_putInForce 20 = .ok (.iload_n 2, 1) := by decide +kernel
theorem dX4_putInForce_21 : decode cX4_putInForce 21 = .ok (.iaload, 1) := by decide +kernel
theorem dX4_putInForce_22 : decode cX4_putInForce 22 = .ok (.ifCond .eq 32, 3) := by decide +kernel
theorem dX4_putInForce_25 : decode cX4_putInForce 25 = .ok (.aload_n 1, 1) := by decide +kernel
theorem dX4_putInForce_26 : decode cX4_putInForce 26 = .ok (.iload_n 2, 1) := by decide +kernel
theorem dX4_putInForce_27 : decode cX4_putInForce 27 = .ok (.invokevirtual 98, 3) := by decide +kernel
theorem dX4_putInForce_30 : decode cX4_putInForce 30 = .ok (.checkcast 102, 3) := by decide +kernel
theorem dX4_putInForce_33 : decode cX4_putInForce 33 = .ok (.aload_n 0, 1) := by decide +kernel
theorem dX4_putInForce_34 : decode cX4_putInForce 34 = .ok (.getfield 18, 3) := by decide +kernel
theorem dX4_putInForce_37 : decode cX4_putInForce 37 = .ok (.iload_n 2, 1) := by decide +kernel
theorem dX4_putInForce_38 : decode cX4_putInForce 38 = .ok (.iaload, 1) := by decide +kernel
theorem dX4_putInForce_39 : decode cX4_putInForce 39 = .ok (.aload_n 0, 1) := by decide +kernel
theorem dX4_putInForce_40 : decode cX4_putInForce 40 = .ok (.getfield 22, 3) := by decide +kernel
theorem dX4_putInForce_43 : decode cX4_putInForce 43 = .ok (.iload_n 2, 1) := by decide +kernel
theorem dX4_putInForce_44 : decode cX4_putInForce 44 = .ok (.iaload, 1) := by decide +kernel
theorem dX4_putInForce_45 : decode cX4_putInForce 45 = .ok (.aload_n 0, 1) := by decide +kernel
theorem dX4_putInForce_46 : decode cX4_putInForce 46 = .ok (.getfield 25, 3) := by decide +kernel
theorem dX4_putInForce_49 : decode cX4_putInForce 49 = .ok (.iload_n 2, 1) := by decide +kernel
theorem dX4_putInForce_50 : decode cX4_putInForce 50 = .ok (.iaload, 1) := by decide +kernel
theorem dX4_putInForce_51 : decode cX4_putInForce 51 = .ok (.invokevirtual 104, 3) := by decide +kernel
theorem dX4_putInForce_54 : decode cX4_putInForce 54 = .ok (.iinc 2 1, 3) := by decide +kernel
theorem dX4_putInForce_57 : decode cX4_putInForce 57 = .ok (.goto (-55), 3) := by decide +kernel
theorem dX4_putInForce_60 : decode cX4_putInForce 60 = .ok (.return_, 1) := by decide +kernel
theorem dX5_init_0 : decode cX5_init 0 = .ok (.aload_n 0, 1) := by decide +kernel
theorem dX5_init_1 : decode cX5_init 1 = .ok (.invokespecial 3, 3) := by decide +kernel
theorem dX5_init_4 : decode cX5_init 4 = .ok (.aload_n 0, 1) := by decide +kernel
theorem dX5_init_5 : decode cX5_init 5 = .ok (.sipush 300, 3) := by decide +kernel
theorem dX5_init_8 : decode cX5_init 8 = .ok (.newarray .byte, 2) := by decide +kernel
theorem dX5_init_10 : decode cX5_init 10 = .ok (.putfield 9, 3) := by decide +kernel
theorem dX5_init_13 : decode cX5_init 13 = .ok (.return_, 1) := by decide +kernel
theorem dX5_append_0 : decode cX5_append 0 = .ok (.iload_n 3, 1) := by decide +kernel
theorem dX5_append_1 : decode cX5_append 1 = .ok (.iconst 1, 1) := by decide +kernel
theorem dX5_append_2 : decode cX5_append 2 = .ok (.isub, 1) := by decide +kernel
theorem dX5_append_3 : decode cX5_append 3 = .ok (.istore 4, 2) := by decide +kernel
theorem dX5_append_5 : decode cX5_append 5 = .ok (.iload 4, 2) := by decide +kernel
theorem dX5_append_7 : decode cX5_append 7 = .ok (.ifCond .lt 47, 3) := by decide +kernel
theorem dX5_append_10 : decode cX5_append 10 = .ok (.aload_n 0, 1) := by decide +kernel
theorem dX5_append_11 : decode cX5_append 11 = .ok (.getfield 15, 3) := by decide +kernel
theorem dX5_append_14 : decode cX5_append 14 = .ok (.sipush 300, 3) := by decide +kernel
theorem dX5_append_17 : decode cX5_append 17 = .ok (.if_icmp .ge 37, 3) := by decide +kernel
theorem dX5_append_20 : decode cX5_append 20 = .ok (.aload_n 0, 1) := by decide +kernel
theorem dX5_append_21 : decode cX5_append 21 = .ok (.getfield 9, 3) := by decide +kernel
theorem dX5_append_24 : decode cX5_append 24 = .ok (.aload_n 0, 1) := by decide +kernel
theorem dX5_append_25 : decode cX5_append 25 = .ok (.getfield 15, 3) := by decide +kernel
theorem dX5_append_28 : decode cX5_append 28 = .ok (.lload_n 1, 1) := by decide +kernel
theorem dX5_append_29 : decode cX5_append 29 = .ok (.bipush 8, 2) := by decide +kernel
theorem dX5_append_31 : decode cX5_append 31 = .ok (.iload 4, 2) := by decide +kernel
theorem dX5_append_33 : decode cX5_append 33 = .ok (.imul, 1) := by decide +kernel
theorem dX5_append_34 : decode cX5_append 34 = .ok (.lushr, 1) := by decide +kernel
theorem dX5_append_35 : decode cX5_append 35 = .ok (.l2i, 1) := by decide +kernel
theorem dX5_append_36 : decode cX5_append 36 = .ok (.i2b, 1) := by decide +kernel
theorem dX5_append_37 : decode cX5_append 37 = .ok (.bastore, 1) := by decide +kernel
theorem dX5_append_38 : decode cX5_append 38 = .ok (.aload_n 0, 1) := by decide +kernel
theorem dX5_append_39 : decode cX5_append 39 = .ok (.dup, 1) := by decide +kernel
theorem dX5_append_40 : decode cX5_append 40 = .ok (.getfield 15, 3) := by decide +kernel
theorem dX5_append_43 : decode cX5_append 43 = .ok (.iconst 1, 1) := by decide +kernel
theorem dX5_append_44 : decode cX5_append 44 = .ok (.iadd, 1) := by decide +kernel
theorem dX5_append_45 : decode cX5_append 45 = .ok (.putfield 15, 3) := by decide +kernel
theorem dX5_append_48 : decode cX5_append 48 = .ok (.iinc 4 (-1), 3) := by decide +kernel
theorem dX5_append_51 : decode cX5_append 51 = .ok (.goto (-46), 3) := by decide +kernel
theorem dX5_append_54 : decode cX5_append 54 = .ok (.return_, 1) := by decide +kernel
theorem dX5_rewind_0 : decode cX5_rewind 0 = .ok (.aload_n 0, 1) := by decide +kernel
theorem dX5_rewind_1 : decode cX5_rewind 1 = .ok (.iconst 0, 1) := by decide +kernel
theorem dX5_rewind_2 : decode cX5_rewind 2 = .ok (.putfield 19, 3) := by decide +kernel
theorem dX5_rewind_5 : decode cX5_rewind 5 = .ok (.return_, 1) := by decide +kernel
set_option maxRecDepth 20000 in
theorem ggX5_readToken_X5_isBlank : GoodIn wsX5_readToken wsX5_isBlank := goodIn_r _ [9] (by decide +kernel) (by decide +kernel)
set_option maxRecDepth 20000 in
theorem gX5_readToken_X5_isBlank : GoodIn wsX5_readToken (va_wsS RX5 25 yX5_isBlank wsX5_isBlank) := goodIn_app (goodIn_of _ (by decide +kernel)) ggX5_readToken_X5_isBlank
set_option maxRecDepth 20000 in
theorem ggX5_readToken_X5_isLetter : GoodIn wsX5_readToken wsX5_isLetter := goodIn_r _ [12] (by decide +kernel) (by decide +kernel)
set_option maxRecDepth 20000 in
theorem gX5_readToken_X5_isLetter : GoodIn wsX5_readToken (va_wsS RX5 32 yX5_isLetter wsX5_isLetter) := goodIn_app (goodIn_of _ (by decide +kernel)) ggX5_readToken_X5_isLetter
set_option maxRecDepth 20000 in
theorem ggX5_readToken_X5_endOfLetters : GoodIn wsX5_readToken wsX5_endOfLetters := goodIn_r _ [16, 2, 3, 4, 10, 11, 8, 12, 24, 25, 26, 27, 28] (by decide +kernel) (by decide +kernel)
set_option maxRecDepth 20000 in
theorem gX5_readToken_X5_endOfLetters : GoodIn wsX5_readToken (wsV RX5 35 RX5 yX5_endOfLetters wsX5_endOfLetters) := goodIn_app (goodIn_of _ (by decide +kernel)) ggX5_readToken_X5_endOfLetters
set_option maxRecDepth 20000 in
theorem ggX5_readToken_X5_isFigure : GoodIn wsX5_readToken wsX5_isFigure := goodIn_r _ [19] (by decide +kernel) (by decide +kernel)
set_option maxRecDepth 20000 in
theorem gX5_readToken_X5_isFigure : GoodIn wsX5_readToken (va_wsS RX5 39 yX5_isFigure wsX5_isFigure) := goodIn_app (goodIn_of _ (by decide +kernel)) ggX5_readToken_X5_isFigure
set_option maxRecDepth 20000 in
theorem ggX5_readToken_X5_endOfFigures : GoodIn wsX5_readToken wsX5_endOfFigures := goodIn_r _ [23, 2, 3, 4, 17, 18, 8, 19, 24, 25, 26, 27, 28] (by decide +kernel) (by decide +kernel)
set_option maxRecDepth 20000 in
theorem gX5_readToken_X5_endOfFigures : GoodIn wsX5_readToken (wsV RX5 42 RX5 yX5_endOfFigures wsX5_endOfFigures) := goodIn_app (goodIn_of _ (by decide +kernel)) ggX5_readToken_X5_endOfFigures
theorem dX5_readToken_0 : decode cX5_readToken 0 = .ok (.aload_n 0, 1) := by decide +kernel
theorem dX5_readToken_1 : decode cX5_readToken 1 = .ok (.aload_n 0, 1) := by decide +kernel
theorem dX5_readToken_2 : decode cX5_readToken 2 = .ok (.getfield 19, 3) := by decide +kernel
theorem dX5_readToken_5 : decode cX5_readToken 5 = .ok (.putfield 22, 3) := by decide +kernel
theorem dX5_readToken_8 : decode cX5_readToken 8 = .ok (.aload_n 0, 1) := by decide +kernel
theorem dX5_readToken_9 : decode cX5_readToken 9 = .ok (.getfield 22, 3) := by decide +kernel
theorem dX5_readToken_12 : decode cX5_readToken 12 = .ok (.aload_n 0, 1) := by decide +kernel
theorem dX5_readToken_13 : decode cX5_readToken 13 = .ok (.getfield 15, 3) := by decide +kernel
theorem dX5_readToken_16 : decode cX5_readToken 16 = .ok (.if_icmp .ge 31, 3) := by decide +kernel
theorem dX5_readToken_19 : decode cX5_readToken 19 = .ok (.aload_n 0, 1) := by decide +kernel
theorem dX5_readToken_20 : decode cX5_readToken 20 = .ok (.getfield 9, 3) := by decide +kernel
theorem dX5_readToken_23 : decode cX5_readToken 23 = .ok (.aload_n 0, 1) := by decide +kernel
theorem dX5_readToken_24 : decode cX5_readToken 24 = .ok (.getfield 22, 3) := by decide +kernel
theorem dX5_readToken_27 : decode cX5_readToken 27 = .ok (.baload, 1) := by decide +kernel
theorem dX5_readToken_28 : decode cX5_readToken 28 = .ok (.invokestatic 25, 3) := by decide +kernel
theorem dX5_readToken_31 : decode cX5_readToken 31 = .ok (.ifCond .eq 16, 3) := by decide +kernel
theorem dX5_readToken_34 : decode cX5_readToken 34 = .ok (.aload_n 0, 1) := by decide +kernel
theorem dX5_readToken_35 : decode cX5_readToken 35 = .ok (.dup, 1) := by decide +kernel
theorem dX5_readToken_36 : decode cX5_readToken 36 = .ok (.getfield 22, 3) := by decide +kernel
theorem dX5_readToken_39 : decode cX5_readToken 39 = .ok (.iconst 1, 1) := by decide +kernel
theorem dX5_readToken_40 : decode cX5_readToken 40 = .ok (.iadd, 1) := by decide +kernel
theorem dX5_readToken_41 : decode cX5_readToken 41 = .ok (.putfield 22, 3) := by decide +kernel
theorem dX5_readToken_44 : decode cX5_readToken 44 = .ok (.goto (-36), 3) := by decide +kernel
theorem dX5_readToken_47 : decode cX5_readToken 47 = .ok (.aload_n 0, 1) := by decide +kernel
theorem dX5_readToken_48 : decode cX5_readToken 48 = .ok (.getfield 22, 3) := by decide +kernel
theorem dX5_readToken_51 : decode cX5_readToken 51 = .ok (.aload_n 0, 1) := by decide +kernel
theorem dX5_readToken_52 : decode cX5_readToken 52 = .ok (.getfield 15, 3) := by decide +kernel
theorem dX5_readToken_55 : decode cX5_readToken 55 = .ok (.if_icmp .lt 19, 3) := by decide +kernel
theorem dX5_readToken_58 : decode cX5_readToken 58 = .ok (.aload_n 0, 1) := by decide +kernel
theorem dX5_readToken_59 : decode cX5_readToken 59 = .ok (.aload_n 0, 1) := by decide +kernel
theorem dX5_readToken_60 : decode cX5_readToken 60 = .ok (.getfield 22, 3) := by decide +kernel
theorem dX5_readToken_63 : decode cX5_readToken 63 = .ok (.putfield 19, 3) := by decide +kernel
theorem dX5_readToken_66 : decode cX5_readToken 66 = .ok (.aload_n 0, 1) := by decide +kernel
theorem dX5_readToken_67 : decode cX5_readToken 67 = .ok (.iconst 0, 1) := by decide +kernel
theorem dX5_readToken_68 : decode cX5_readToken 68 = .ok (.putfield 29, 3) := by decide +kernel
theorem dX5_readToken_71 : decode cX5_readToken 71 = .ok (.goto 147, 3) := by decide +kernel
theorem dX5_readToken_74 : decode cX5_readToken 74 = .ok (.aload_n 0, 1) := by decide +kernel
theorem dX5_readToken_75 : decode cX5_readToken 75 = .ok (.getfield 9, 3) := by decide +kernel
theorem dX5_readToken_78 : decode cX5_readToken 78 = .ok (.aload_n 0, 1) := by decide +kernel
theorem dX5_readToken_79 : decode cX5_readToken 79 = .ok (.getfield 22, 3) := by decide +kernel
theorem dX5_readToken_82 : decode cX5_readToken 82 = .ok (.baload, 1) := by decide +kernel
theorem dX5_readToken_83 : decode cX5_readToken 83 = .ok (.invokestatic 32, 3) := by decide +kernel
theorem dX5_readToken_86 : decode cX5_readToken 86 = .ok (.ifCond .eq 37, 3) := by decide +kernel
theorem dX5_readToken_89 : decode cX5_readToken 89 = .ok (.aload_n 0, 1) := by decide +kernel
theorem dX5_readToken_90 : decode cX5_readToken 90 = .ok (.aload_n 0, 1) := by decide +kernel
theorem dX5_readToken_91 : decode cX5_readToken 91 = .ok (.invokevirtual 35, 3) := by decide +kernel
theorem dX5_readToken_94 : decode cX5_readToken 94 = .ok (.putfield 19, 3) := by decide +kernel
theorem dX5_readToken_97 : decode cX5_readToken 97 = .ok (.aload_n 0, 1) := by decide +kernel
theorem dX5_readToken_98 : decode cX5_readToken 98 = .ok (.aload_n 0, 1) := by decide +kernel
theorem dX5_readToken_99 : decode cX5_readToken 99 = .ok (.getfield 19, 3) := by decide +kernel
theorem dX5_readToken_102 : decode cX5_readToken 102 = .ok (.aload_n 0, 1) := by decide +kernel
theorem dX5_readToken_103 : decode cX5_readToken 103 = .ok (.getfield 22, 3) := by decide +kernel
theorem dX5_readToken_106 : decode cX5_readToken 106 = .ok (.isub, 1) := by decide +kernel
theorem dX5_readToken_107 : decode cX5_readToken 107 = .ok (.bipush 6, 2) := by decide +kernel
theorem dX5_readToken_109 : decode cX5_readToken 109 = .ok (.if_icmp .gt 7, 3) := by decide +kernel
theorem dX5_readToken_112 : decode cX5_readToken 112 = .ok (.iconst 1, 1) := by decide +kernel
theorem dX5_readToken_113 : decode cX5_readToken 113 = .ok (.goto 4, 3) := by decide +kernel
theorem dX5_readToken_116 : decode cX5_readToken 116 = .ok (.iconst 4, 1) := by decide +kernel
theorem dX5_readToken_117 : decode cX5_readToken 117 = .ok (.putfield 29, 3) := by decide +kernel
theorem dX5_readToken_120 : decode cX5_readToken 120 = .ok (.goto 98, 3) := by decide +kernel
theorem dX5_readToken_123 : decode cX5_readToken 123 = .ok (.aload_n 0, 1) := by decide +kernel
theorem dX5_readToken_124 : decode cX5_readToken 124 = .ok (.getfield 9, 3) := by decide +kernel
theorem dX5_readToken_127 : decode cX5_readToken 127 = .ok (.aload_n 0, 1) := by decide +kernel
theorem dX5_readToken_128 : decode cX5_readToken 128 = .ok (.getfield 22, 3) := by decide +kernel
theorem dX5_readToken_131 : decode cX5_readToken 131 = .ok (.baload, 1) := by decide +kernel
theorem dX5_readToken_132 : decode cX5_readToken 132 = .ok (.invokestatic 39, 3) := by decide +kernel
theorem dX5_readToken_135 : decode cX5_readToken 135 = .ok (.ifCond .eq 36, 3) := by decide +kernel
theorem dX5_readToken_138 : decode cX5_readToken 138 = .ok (.aload_n 0, 1) := by decide +kernel
theorem dX5_readToken_139 : decode cX5_readToken 139 = .ok (.aload_n 0, 1) := by decide +kernel
theorem dX5_readToken_140 : decode cX5_readToken 140 = .ok (.invokevirtual 42, 3) := by decide +kernel
theorem dX5_readToken_143 : decode cX5_readToken 143 = .ok (.putfield 19, 3) := by decide +kernel
theorem dX5_readToken_146 : decode cX5_readToken 146 = .ok (.aload_n 0, 1) := by decide +kernel
theorem dX5_readToken_147 : decode cX5_readToken 147 = .ok (.aload_n 0, 1) := by decide +kernel
theorem dX5_readToken_148 : decode cX5_readToken 148 = .ok (.getfield 19, 3) := by decide +kernel
theorem dX5_readToken_151 : decode cX5_readToken 151 = .ok (.aload_n 0, 1) := by decide +kernel
theorem dX5_readToken_152 : decode cX5_readToken 152 = .ok (.getfield 22, 3) := by decide +kernel
theorem dX5_readToken_155 : decode cX5_readToken 155 = .ok (.isub, 1) := by decide +kernel
theorem dX5_readToken_156 : decode cX5_readToken 156 = .ok (.iconst 4, 1) := by decide +kernel
theorem dX5_readToken_157 : decode cX5_readToken 157 = .ok (.if_icmp .gt 7, 3) := by decide +kernel
theorem dX5_readToken_160 : decode cX5_readToken 160 = .ok (.iconst 2, 1) := by decide +kernel
theorem dX5_readToken_161 : decode cX5_readToken 161 = .ok (.goto 4, 3) := by decide +kernel
theorem dX5_readToken_164 : decode cX5_readToken 164 = .ok (.iconst 4, 1) := by decide +kernel
theorem dX5_readToken_165 : decode cX5_readToken 165 = .ok (.putfield 29, 3) := by decide +kernel
theorem dX5_readToken_168 : decode cX5_readToken 168 = .ok (.goto 50, 3) := by decide +kernel
theorem dX5_readToken_171 : decode cX5_readToken 171 = .ok (.aload_n 0, 1) := by decide +kernel
theorem dX5_readToken_172 : decode cX5_readToken 172 = .ok (.aload_n 0, 1) := by decide +kernel
theorem dX5_readToken_173 : decode cX5_readToken 173 = .ok (.getfield 22, 3) := by decide +kernel
theorem dX5_readToken_176 : decode cX5_readToken 176 = .ok (.iconst 1, 1) := by decide +kernel
theorem dX5_readToken_177 : decode cX5_readToken 177 = .ok (.iadd, 1) := by decide +kernel
theorem dX5_readToken_178 : decode cX5_readToken 178 = .ok (.putfield 19, 3) := by decide +kernel
theorem dX5_readToken_181 : decode cX5_readToken 181 = .ok (.aload_n 0, 1) := by decide +kernel
theorem dX5_readToken_182 : decode cX5_readToken 182 = .ok (.aload_n 0, 1) := by decide +kernel
theorem dX5_readToken_183 : decode cX5_readToken 183 = .ok (.getfield 9, 3) := by decide +kernel
theorem dX5_readToken_186 : decode cX5_readToken 186 = .ok (.aload_n 0, 1) := by decide +kernel
theorem dX5_readToken_187 : decode cX5_readToken 187 = .ok (.getfield 22, 3) := by decide +kernel
theorem dX5_readToken_190 : decode cX5_readToken 190 = .ok (.baload, 1) := by decide +kernel
theorem dX5_readToken_191 : decode cX5_readToken 191 = .ok (.bipush 59, 2) := by decide +kernel
theorem dX5_readToken_193 : decode cX5_readToken 193 = .ok (.if_icmp .eq 17, 3) := by decide +kernel
theorem dX5_readToken_196 : decode cX5_readToken 196 = .ok (.aload_n 0, 1) := by decide +kernel
theorem dX5_readToken_197 : decode cX5_readToken 197 = .ok (.getfield 9, 3) := by decide +kernel
theorem dX5_readToken_200 : decode cX5_readToken 200 = .ok (.aload_n 0, 1) := by decide +kernel
theorem dX5_readToken_201 : decode cX5_readToken 201 = .ok (.getfield 22, 3) := by decide +kernel
theorem dX5_readToken_204 : decode cX5_readToken 204 = .ok (.baload, 1) := by decide +kernel
theorem dX5_readToken_205 : decode cX5_readToken 205 = .ok (.bipush 60, 2) := by decide +kernel
theorem dX5_readToken_207 : decode cX5_readToken 207 = .ok (.if_icmp .ne 7, 3) := by decide +kernel
theorem dX5_readToken_210 : decode cX5_readToken 210 = .ok (.iconst 3, 1) := by decide +kernel
theorem dX5_readToken_211 : decode cX5_readToken 211 = .ok (.goto 4, 3) := by decide +kernel
theorem dX5_readToken_214 : decode cX5_readToken 214 = .ok (.iconst 4, 1) := by decide +kernel
theorem dX5_readToken_215 : decode cX5_readToken 215 = .ok (.putfield 29, 3) := by decide +kernel
theorem dX5_readToken_218 : decode cX5_readToken 218 = .ok (.return_, 1) := by decide +kernel
set_option maxRecDepth 20000 in
theorem ggX5_endOfLetters_X5_isLetter : GoodIn wsX5_endOfLetters wsX5_isLetter := goodIn_r _ [7] (by decide +kernel) (by decide +kernel)
set_option maxRecDepth 20000 in
theorem gX5_endOfLetters_X5_isLetter : GoodIn wsX5_endOfLetters (va_wsS RX5 32 yX5_isLetter wsX5_isLetter) := goodIn_app (goodIn_of _ (by decide +kernel)) ggX5_endOfLetters_X5_isLetter
theorem dX5_endOfLetters_0 : decode cX5_endOfLetters 0 = .ok (.aload_n 0, 1) := by decide +kernel
theorem dX5_endOfLetters_1 : decode cX5_endOfLetters 1 = .ok (.getfield 22, 3) := by decide +kernel
theorem dX5_endOfLetters_4 : decode cX5_endOfLetters 4 = .ok (.istore_n 1, 1) := by decide +kernel
theorem dX5_endOfLetters_5 : decode cX5_endOfLetters 5 = .ok (.iload_n 1, 1) := by decide +kernel
theorem dX5_endOfLetters_6 : decode cX5_endOfLetters 6 = .ok (.aload_n 0, 1) := by decide +kernel
theorem dX5_endOfLetters_7 : decode cX5_endOfLetters 7 = .ok (.getfield 15, 3) := by decide +kernel
theorem dX5_endOfLetters_10 : decode cX5_endOfLetters 10 = .ok (.if_icmp .ge 21, 3) := by decide +kernel
theorem dX5_endOfLetters_13 : decode cX5_endOfLetters 13 = .ok (.aload_n 0, 1) := by decide +kernel
theorem dX5_endOfLetters_14 : decode cX5_endOfLetters 14 = .ok (.getfield 9, 3) := by decide +kernel
theorem dX5_endOfLetters_17 : decode cX5_endOfLetters 17 = .ok (.iload_n 1, 1) := by decide +kernel
theorem dX5_endOfLetters_18 : decode cX5_endOfLetters 18 = .ok (.baload, 1) := by decide +kernel
theorem dX5_endOfLetters_19 : decode cX5_endOfLetters 19 = .ok (.invokestatic 32, 3) := by decide +kernel
theorem dX5_endOfLetters_22 : decode cX5_endOfLetters 22 = .ok (.ifCond .eq 9, 3) := by decide +kernel
theorem dX5_endOfLetters_25 : decode cX5_endOfLetters 25 = .ok (.iinc 1 1, 3) := by decide +kernel
theorem dX5_endOfLetters_28 : decode cX5_endOfLetters 28 = .ok (.goto (-23), 3) := by decide +kernel
theorem dX5_endOfLetters_31 : decode cX5_endOfLetters 31 = .ok (.iload_n 1, 1) := by decide +kernel
theorem dX5_endOfLetters_32 : decode cX5_endOfLetters 32 = .ok (.ireturn, 1) := by decide +kernel
set_option maxRecDepth 20000 in
theorem ggX5_endOfFigures_X5_isFigure : GoodIn wsX5_endOfFigures wsX5_isFigure := goodIn_r _ [7] (by decide +kernel) (by decide +kernel)
set_option maxRecDepth 20000 in
theorem gX5_endOfFigures_X5_isFigure : GoodIn wsX5_endOfFigures (va_wsS RX5 39 yX5_isFigure wsX5_isFigure) := goodIn_app (goodIn_of _ (by decide +kernel)) ggX5_endOfFigures_X5_isFigure
theorem dX5_endOfFigures_0 : decode cX5_endOfFigures 0 = .ok (.aload_n 0, 1) := by decide +kernel
theorem dX5_endOfFigures_1 : decode cX5_endOfFigures 1 = .ok (.getfield 22, 3) := by decide +kernel
theorem dX5_endOfFigures_4 : decode cX5_endOfFigures 4 = .ok (.istore_n 1, 1) := by decide +kernel
theorem dX5_endOfFigures_5 : decode cX5_endOfFigures 5 = .ok (.iload_n 1, 1) := by decide +kernel
theorem dX5_endOfFigures_6 : decode cX5_endOfFigures 6 = .ok (.aload_n 0, 1) := by decide +kernel
theorem dX5_endOfFigures_7 : decode cX5_endOfFigures 7 = .ok (.getfield 15, 3) := by decide +kernel
theorem dX5_endOfFigures_10 : decode cX5_endOfFigures 10 = .ok (.if_icmp .ge 21, 3) := by decide +kernel
theorem dX5_endOfFigures_13 : decode cX5_endOfFigures 13 = .ok (.aload_n 0, 1) := by decide +kernel
theorem dX5_endOfFigures_14 : decode cX5_endOfFigures 14 = .ok (.getfield 9, 3) := by decide +kernel
theorem dX5_endOfFigures_17 : decode cX5_endOfFigures 17 = .ok (.iload_n 1, 1) := by decide +kernel
theorem dX5_endOfFigures_18 : decode cX5_endOfFigures 18 = .ok (.baload, 1) := by decide +kernel
theorem dX5_endOfFigures_19 : decode cX5_endOfFigures 19 = .ok (.invokestatic 39, 3) := by decide +kernel
theorem dX5_endOfFigures_22 : decode cX5_endOfFigures 22 = .ok (.ifCond .eq 9, 3) := by decide +kernel
theorem dX5_endOfFigures_25 : decode cX5_endOfFigures 25 = .ok (.iinc 1 1, 3) := by decide +kernel
theorem dX5_endOfFigures_28 : decode cX5_endOfFigures 28 = .ok (.goto (-23), 3) := by decide +kernel
theorem dX5_endOfFigures_31 : decode cX5_endOfFigures 31 = .ok (.iload_n 1, 1) := by decide +kernel
theorem dX5_endOfFigures_32 : decode cX5_endOfFigures 32 = .ok (.ireturn, 1) := by decide +kernel
set_option maxRecDepth 20000 in
theorem ggX5_isName_J0_length_8abf5 : GoodIn wsX5_isName wsJ0_length_8abf5 := goodIn_r _ [9, 10, 11, 12, 13, 8, 14, 15, 16] (by decide +kernel) (by decide +kernel)
set_option maxRecDepth 20000 in
theorem gX5_isName_J0_length_8abf5 : GoodIn wsX5_isName (wsV RX5 45 RJ0 yJ0_length_8abf5 wsJ0_length_8abf5) := goodIn_app (goodIn_of _ (by decide +kernel)) ggX5_isName_J0_length_8abf5
set_option maxRecDepth 20000 in
theorem ggX5_isName_J0_charAt_5068e : GoodIn wsX5_isName wsJ0_charAt_5068e := goodIn_r _ [20, 10, 21, 22, 23, 8, 24, 15, 16, 25, 26, 27, 28, 29, 30, 31, 32, 33, 34, 35, 36, 37, 38, 39, 40, 41, 42, 43, 44, 45, 46, 47, 48, 49, 50, 51, 52, 53] (by decide +kernel) (by decide +kernel)
set_option maxRecDepth 20000 in
theorem gX5_isName_J0_charAt_5068e : GoodIn wsX5_isName (wsV RX5 49 RJ0 yJ0_charAt_5068e wsJ0_charAt_5068e) := goodIn_app (goodIn_of _ (by decide +kernel)) ggX5_isName_J0_charAt_5068e
theorem dX5_isName_0 : decode cX5_isName 0 = .ok (.aload_n 0, 1) := by decide +kernel
theorem dX5_isName_1 : decode cX5_isName 1 = .ok (.getfield 29, 3) := by decide +kernel
theorem dX5_isName_4 : decode cX5_isName 4 = .ok (.iconst 1, 1) := by decide +kernel
theorem dX5_isName_5 : decode cX5_isName 5 = .ok (.if_icmp .ne 19, 3) := by decide +kernel
theorem dX5_isName_8 : decode cX5_isName 8 = .ok (.aload_n 0, 1) := by decide +kernel
theorem dX5_isName_9 : decode cX5_isName 9 = .ok (.getfield 19, 3) := by decide +kernel
theorem dX5_isName_12 : decode cX5_isName 12 = .ok (.aload_n 0, 1) := by decide +kernel
theorem dX5_isName_13 : decode cX5_isName 13 = .ok (.getfield 22, 3) := by decide +kernel
theorem dX5_isName_16 : decode cX5_isName 16 = .ok (.isub, 1) := by decide +kernel
theorem dX5_isName_17 : decode cX5_isName 17 = .ok (.aload_n 1, 1) := by decide +kernel
theorem dX5_isName_18 : decode cX5_isName 18 = .ok (.invokevirtual 45, 3) := by decide +kernel
theorem dX5_isName_21 : decode cX5_isName 21 = .ok (.if_icmp .eq 5, 3) := by decide +kernel
theorem dX5_isName_24 : decode cX5_isName 24 = .ok (.iconst 0, 1) := by decide +kernel
theorem dX5_isName_25 : decode cX5_isName 25 = .ok (.ireturn, 1) := by decide +kernel
theorem dX5_isName_26 : decode cX5_isName 26 = .ok (.iconst 0, 1) := by decide +kernel
theorem dX5_isName_27 : decode cX5_isName 27 = .ok (.istore_n 2, 1) := by decide +kernel
theorem dX5_isName_28 : decode cX5_isName 28 = .ok (.iload_n 2, 1) := by decide +kernel
theorem dX5_isName_29 : decode cX5_isName 29 = .ok (.aload_n 1, 1) := by decide +kernel
theorem dX5_isName_30 : decode cX5_isName 30 = .ok (.invokevirtual 45, 3) := by decide +kernel
theorem dX5_isName_33 : decode cX5_isName 33 = .ok (.if_icmp .ge 30, 3) := by decide +kernel
theorem dX5_isName_36 : decode cX5_isName 36 = .ok (.aload_n 0, 1) := by decide +kernel
theorem dX5_isName_37 : decode cX5_isName 37 = .ok (.getfield 9, 3) := by decide +kernel
theorem dX5_isName_40 : decode cX5_isName 40 = .ok (.aload_n 0, 1) := by decide +kernel
theorem dX5_isName_41 : decode cX5_isName 41 = .ok (.getfield 22, 3) := by decide +kernel
theorem dX5_isName_44 : decode cX5_isName 44 = .ok (.iload_n 2, 1) := by decide +kernel
theorem dX5_isName_45 : decode cX5_isName 45 = .ok (.iadd, 1) := by decide +kernel
theorem dX5_isName_46 : decode cX5_isName 46 = .ok (.baload, 1) := by decide +kernel
theorem dX5_isName_47 : decode cX5_isName 47 = .ok (.aload_n 1, 1) := by decide +kernel
theorem dX5_isName_48 : decode cX5_isName 48 = .ok (.iload_n 2, 1) := by decide +kernel
theorem dX5_isName_49 : decode cX5_isName 49 = .ok (.invokevirtual 49, 3) := by decide +kernel
theorem dX5_isName_52 : decode cX5_isName 52 = .ok (.if_icmp .eq 5, 3) := by decide +kernel
theorem dX5_isName_55 : decode cX5_isName 55 = .ok (.iconst 0, 1) := by decide +kernel
theorem dX5_isName_56 : decode cX5_isName 56 = .ok (.ireturn, 1) := by decide +kernel
theorem dX5_isName_57 : decode cX5_isName 57 = .ok (.iinc 2 1, 3) := by decide +kernel
theorem dX5_isName_60 : decode cX5_isName 60 = .ok (.goto (-32), 3) := by decide +kernel
theorem dX5_isName_63 : decode cX5_isName 63 = .ok (.iconst 1, 1) := by decide +kernel
theorem dX5_isName_64 : decode cX5_isName 64 = .ok (.ireturn, 1) := by decide +kernel
theorem dX5_isSign_0 : decode cX5_isSign 0 = .ok (.aload_n 0, 1) := by decide +kernel
theorem dX5_isSign_1 : decode cX5_isSign 1 = .ok (.getfield 29, 3) := by decide +kernel
theorem dX5_isSign_4 : decode cX5_isSign 4 = .ok (.iconst 3, 1) := by decide +kernel
theorem dX5_isSign_5 : decode cX5_isSign 5 = .ok (.if_icmp .ne 20, 3) := by decide +kernel
theorem dX5_isSign_8 : decode cX5_isSign 8 = .ok (.aload_n 0, 1) := by decide +kernel
theorem dX5_isSign_9 : decode cX5_isSign 9 = .ok (.getfield 9, 3) := by decide +kernel
theorem dX5_isSign_12 : decode cX5_isSign 12 = .ok (.aload_n 0, 1) := by decide +kernel
theorem dX5_isSign_13 : decode cX5_isSign 13 = .ok (.getfield 22, 3) := by decide +kernel
theorem dX5_isSign_16 : decode cX5_isSign 16 = .ok (.baload, 1) := by decide +kernel
theorem dX5_isSign_17 : decode cX5_isSign 17 = .ok (.iload_n 1, 1) := by decide +kernel
theorem dX5_isSign_18 : decode cX5_isSign 18 = .ok (.if_icmp .ne 7, 3) := by decide +kernel
theorem dX5_isSign_21 : decode cX5_isSign 21 = .ok (.iconst 1, 1) := by decide +kernel
theorem dX5_isSign_22 : decode cX5_isSign 22 = .ok (.goto 4, 3) := by decide +kernel
theorem dX5_isSign_25 : decode cX5_isSign 25 = .ok (.iconst 0, 1) := by decide +kernel
theorem dX5_isSign_26 : decode cX5_isSign 26 = .ok (.ireturn, 1) := by decide +kernel
theorem dX5_numberValue_0 : decode cX5_numberValue 0 = .ok (.iconst 0, 1) := by decide +kernel
theorem dX5_numberValue_1 : decode cX5_numberValue 1 = .ok (.istore_n 1, 1) := by decide +kernel
theorem dX5_numberValue_2 : decode cX5_numberValue 2 = .ok (.aload_n 0, 1) := by decide +kernel
theorem dX5_numberValue_3 : decode cX5_numberValue 3 = .ok (.getfield 22, 3) := by decide +kernel
theorem dX5_numberValue_6 : decode cX5_numberValue 6 = .ok (.istore_n 2, 1) := by decide +kernel
theorem dX5_numberValue_7 : decode cX5_numberValue 7 = .ok (.iload_n 2, 1) := by decide +kernel
theorem dX5_numberValue_8 : decode cX5_numberValue 8 = .ok (.aload_n 0, 1) := by decide +kernel
theorem dX5_numberValue_9 : decode cX5_numberValue 9 = .ok (.getfield 19, 3) := by decide +kernel
theorem dX5_numberValue_12 : decode cX5_numberValue 12 = .ok (.if_icmp .ge 24, 3) := by decide +kernel
theorem dX5_numberValue_15 : decode cX5_numberValue 15 = .ok (.bipush 10, 2) := by decide +kernel
theorem dX5_numberValue_17 : decode cX5_numberValue 17 = .ok (.iload_n 1, 1) := by decide +kernel
theorem dX5_numberValue_18 : decode cX5_numberValue 18 = .ok (.imul, 1) := by decide +kernel
theorem dX5_numberValue_19 : decode cX5_numberValue 19 = .ok (.aload_n 0, 1) := by decide +kernel
theorem dX5_numberValue_20 : decode cX5_numberValue 20 = .ok (.getfield 9, 3) := by decide +kernel
theorem dX5_numberValue_23 : decode cX5_numberValue 23 = .ok (.iload_n 2, 1) := by decide +kernel
theorem dX5_numberValue_24 : decode cX5_numberValue 24 = .ok (.baload, 1) := by decide +kernel
theorem dX5_numberValue_25 : decode cX5_numberValue 25 = .ok (.iadd, 1) := by decide +kernel
theorem dX5_numberValue_26 : decode cX5_numberValue 26 = .ok (.bipush 48, 2) := by decide +kernel
theorem dX5_numberValue_28 : decode cX5_numberValue 28 = .ok (.isub, 1) := by decide +kernel
theorem dX5_numberValue_29 : decode cX5_numberValue 29 = .ok (.istore_n 1, 1) := by decide +kernel
theorem dX5_numberValue_30 : decode cX5_numberValue 30 = .ok (.iinc 2 1, 3) := by decide +kernel
theorem dX5_numberValue_33 : decode cX5_numberValue 33 = .ok (.goto (-26), 3) := by decide +kernel
theorem dX5_numberValue_36 : decode cX5_numberValue 36 = .ok (.iload_n 1, 1) := by decide +kernel
theorem dX5_numberValue_37 : decode cX5_numberValue 37 = .ok (.ireturn, 1) := by decide +kernel
theorem dX5_isBlank_0 : decode cX5_isBlank 0 = .ok (.iload_n 0, 1) := by decide +kernel
theorem dX5_isBlank_1 : decode cX5_isBlank 1 = .ok (.bipush 32, 2) := by decide +kernel
theorem dX5_isBlank_3 : decode cX5_isBlank 3 = .ok (.if_icmp .eq 9, 3) := by decide +kernel
theorem dX5_isBlank_6 : decode cX5_isBlank 6 = .ok (.iload_n 0, 1) := by decide +kernel
theorem dX5_isBlank_7 : decode cX5_isBlank 7 = .ok (.bipush 10, 2) := by decide +kernel
theorem dX5_isBlank_9 : decode cX5_isBlank 9 = .ok (.if_icmp .ne 7, 3) := by decide +kernel
theorem dX5_isBlank_12 : decode cX5_isBlank 12 = .ok (.iconst 1, 1) := by decide +kernel
theorem dX5_isBlank_13 : decode cX5_isBlank 13 = .ok (.goto 4, 3) := by decide +kernel
theorem dX5_isBlank_16 : decode cX5_isBlank 16 = .ok (.iconst 0, 1) := by decide +kernel
theorem dX5_isBlank_17 : decode cX5_isBlank 17 = .ok (.ireturn, 1) := by decide +kernel
theorem dX5_isLetter_0 : decode cX5_isLetter 0 = .ok (.iload_n 0, 1) := by decide +kernel
theorem dX5_isLetter_1 : decode cX5_isLetter 1 = .ok (.bipush 97, 2) := by decide +kernel
theorem dX5_isLetter_3 : decode cX5_isLetter 3 = .ok (.if_icmp .lt 13, 3) := by decide +kernel
theorem dX5_isLetter_6 : decode cX5_isLetter 6 = .ok (.iload_n 0, 1) := by decide +kernel
theorem dX5_isLetter_7 : decode cX5_isLetter 7 = .ok (.bipush 122, 2) := by decide +kernel
theorem dX5_isLetter_9 : decode cX5_isLetter 9 = .ok (.if_icmp .gt 7, 3) := by decide +kernel
theorem dX5_isLetter_12 : decode cX5_isLetter 12 = .ok (.iconst 1, 1) := by decide +kernel
theorem dX5_isLetter_13 : decode cX5_isLetter 13 = .ok (.goto 4, 3) := by decide +kernel
theorem dX5_isLetter_16 : decode cX5_isLetter 16 = .ok (.iconst 0, 1) := by decide +kernel
theorem dX5_isLetter_17 : decode cX5_isLetter 17 = .ok (.ireturn, 1) := by decide +kernel
theorem dX5_isFigure_0 : decode cX5_isFigure 0 = .ok (.iload_n 0, 1) := by decide +kernel
theorem dX5_isFigure_1 : decode cX5_isFigure 1 = .ok (.bipush 48, 2) := by decide +kernel
theorem dX5_isFigure_3 : decode cX5_isFigure 3 = .ok (.if_icmp .lt 13, 3) := by decide +kernel
theorem dX5_isFigure_6 : decode cX5_isFigure 6 = .ok (.iload_n 0, 1) := by decide +kernel
theorem dX5_isFigure_7 : decode cX5_isFigure 7 = .ok (.bipush 57, 2) := by decide +kernel
theorem dX5_isFigure_9 : decode cX5_isFigure 9 = .ok (.if_icmp .gt 7, 3) := by decide +kernel
theorem dX5_isFigure_12 : decode cX5_isFigure 12 = .ok (.iconst 1, 1) := by decide +kernel
theorem dX5_isFigure_13 : decode cX5_isFigure 13 = .ok (.goto 4, 3) := by decide +kernel
theorem dX5_isFigure_16 : decode cX5_isFigure 16 = .ok (.iconst 0, 1) := by decide +kernel
theorem dX5_isFigure_17 : decode cX5_isFigure 17 = .ok (.ireturn, 1) := by decide +kernel
