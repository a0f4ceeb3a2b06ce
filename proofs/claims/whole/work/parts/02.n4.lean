theorem dX8_state_41 : decode cX8_state 41 = .ok (.iload_n 2, 1) := by decide +kernel
theorem dX8_state_42 : decode cX8_state 42 = .ok (.iconst 1, 1) := by decide +kernel
theorem dX8_state_43 : decode cX8_state 43 = .ok (.if_icmp .ne 12, 3) := by decide +kernel
theorem dX8_state_46 : decode cX8_state 46 = .ok (.aload_n 0, 1) := by decide +kernel
theorem dX8_state_47 : decode cX8_state 47 = .ok (.getfield 40, 3) := by decide +kernel
theorem dX8_state_50 : decode cX8_state 50 = .ok (.iload_n 1, 1) := by decide +kernel
theorem dX8_state_51 : decode cX8_state 51 = .ok (.iaload, 1) := by decide +kernel
theorem dX8_state_52 : decode cX8_state 52 = .ok (.goto 58, 3) := by decide +kernel
theorem dX8_state_55 : decode cX8_state 55 = .ok (.iload_n 2, 1) := by decide +kernel
theorem dX8_state_56 : decode cX8_state 56 = .ok (.iconst 2, 1) := by decide +kernel
theorem dX8_state_57 : decode cX8_state 57 = .ok (.if_icmp .ne 19, 3) := by decide +kernel
theorem dX8_state_60 : decode cX8_state 60 = .ok (.aload_n 0, 1) := by decide +kernel
theorem dX8_state_61 : decode cX8_state 61 = .ok (.getfield 40, 3) := by decide +kernel
theorem dX8_state_64 : decode cX8_state 64 = .ok (.iload_n 1, 1) := by decide +kernel
theorem dX8_state_65 : decode cX8_state 65 = .ok (.iaload, 1) := by decide +kernel
theorem dX8_state_66 : decode cX8_state 66 = .ok (.aload_n 0, 1) := by decide +kernel
theorem dX8_state_67 : decode cX8_state 67 = .ok (.getfield 43, 3) := by decide +kernel
theorem dX8_state_70 : decode cX8_state 70 = .ok (.iload_n 1, 1) := by decide +kernel
theorem dX8_state_71 : decode cX8_state 71 = .ok (.iaload, 1) := by decide +kernel
theorem dX8_state_72 : decode cX8_state 72 = .ok (.iadd, 1) := by decide +kernel
theorem dX8_state_73 : decode cX8_state 73 = .ok (.goto 37, 3) := by decide +kernel
theorem dX8_state_76 : decode cX8_state 76 = .ok (.iload_n 2, 1) := by decide +kernel
theorem dX8_state_77 : decode cX8_state 77 = .ok (.iconst 3, 1) := by decide +kernel
theorem dX8_state_78 : decode cX8_state 78 = .ok (.if_icmp .ne 12, 3) := by decide +kernel
theorem dX8_state_81 : decode cX8_state 81 = .ok (.aload_n 0, 1) := by decide +kernel
theorem dX8_state_82 : decode cX8_state 82 = .ok (.getfield 37, 3) := by decide +kernel
theorem dX8_state_85 : decode cX8_state 85 = .ok (.iload_n 1, 1) := by decide +kernel
theorem dX8_state_86 : decode cX8_state 86 = .ok (.iaload, 1) := by decide +kernel
theorem dX8_state_87 : decode cX8_state 87 = .ok (.goto 23, 3) := by decide +kernel
theorem dX8_state_90 : decode cX8_state 90 = .ok (.iload_n 2, 1) := by decide +kernel
theorem dX8_state_91 : decode cX8_state 91 = .ok (.iconst 4, 1) := by decide +kernel
theorem dX8_state_92 : decode cX8_state 92 = .ok (.if_icmp .ne 12, 3) := by decide +kernel
theorem dX8_state_95 : decode cX8_state 95 = .ok (.aload_n 0, 1) := by decide +kernel
theorem dX8_state_96 : decode cX8_state 96 = .ok (.getfield 25, 3) := by decide +kernel
theorem dX8_state_99 : decode cX8_state 99 = .ok (.iload_n 1, 1) := by decide +kernel
theorem dX8_state_100 : decode cX8_state 100 = .ok (.iaload, 1) := by decide +kernel
theorem dX8_state_101 : decode cX8_state 101 = .ok (.goto 9, 3) := by decide +kernel
theorem dX8_state_104 : decode cX8_state 104 = .ok (.aload_n 0, 1) := by decide +kernel
theorem dX8_state_105 : decode cX8_state 105 = .ok (.getfield 28, 3) := by decide +kernel
theorem dX8_state_108 : decode cX8_state 108 = .ok (.iload_n 1, 1) := by decide +kernel
theorem dX8_state_109 : decode cX8_state 109 = .ok (.iaload, 1) := by decide +kernel
theorem dX8_state_110 : decode cX8_state 110 = .ok (.ireturn, 1) := by decide +kernel
set_option maxRecDepth 20000 in
theorem ggX8_put_X8_isDial : GoodIn wsX8_put wsX8_isDial := goodIn_r _ [11, 12, 13, 14, 10, 15, 16, 17, 18, 19, 20, 21, 22, 23, 24, 25, 26, 27, 28, 29, 30, 31, 32, 33, 34, 35, 36, 37, 38, 39, 40, 41, 42, 43, 44, 45, 46, 47, 48, 49, 50, 51, 52, 53, 54, 55, 56, 57, 58, 59, 60, 61, 62, 63] (by decide +kernel) (by decide +kernel)
set_option maxRecDepth 20000 in
theorem gX8_put_X8_isDial : GoodIn wsX8_put (wsV RX8 157 RX8 yX8_isDial wsX8_isDial) := goodIn_app (goodIn_of _ (by decide +kernel)) ggX8_put_X8_isDial
set_option maxRecDepth 20000 in
theorem ggX8_put_X8_in : GoodIn wsX8_put wsX8_in := goodIn_r _ [15] (by decide +kernel) (by decide +kernel)
set_option maxRecDepth 20000 in
theorem gX8_put_X8_in : GoodIn wsX8_put (va_wsS RX8 102 yX8_in wsX8_in) := goodIn_app (goodIn_of _ (by decide +kernel)) ggX8_put_X8_in
theorem dX8_put_0 : decode cX8_put 0 = .ok (.aload_n 0, 1) := by decide +kernel
theorem dX8_put_1 : decode cX8_put 1 = .ok (.iconst 0, 1) := by decide +kernel
theorem dX8_put_2 : decode cX8_put 2 = .ok (.putfield 95, 3) := by decide +kernel
theorem dX8_put_5 : decode cX8_put 5 = .ok (.aload_n 0, 1) := by decide +kernel
theorem dX8_put_6 : decode cX8_put 6 = .ok (.iload_n 1, 1) := by decide +kernel
theorem dX8_put_7 : decode cX8_put 7 = .ok (.invokevirtual 157, 3) := by decide +kernel
theorem dX8_put_10 : decode cX8_put 10 = .ok (.ifCond .eq 21, 3) := by decide +kernel
theorem dX8_put_13 : decode cX8_put 13 = .ok (.iload_n 2, 1) := by decide +kernel
theorem dX8_put_14 : decode cX8_put 14 = .ok (.i2l, 1) := by decide +kernel
theorem dX8_put_15 : decode cX8_put 15 = .ok (.ldc2_w 160, 3) := by decide +kernel
theorem dX8_put_18 : decode cX8_put 18 = .ok (.ldc2_w 117, 3) := by decide +kernel
theorem dX8_put_21 : decode cX8_put 21 = .ok (.invokestatic 102, 3) := by decide +kernel
theorem dX8_put_24 : decode cX8_put 24 = .ok (.ifCond .eq 7, 3) := by decide +kernel
theorem dX8_put_27 : decode cX8_put 27 = .ok (.iload_n 2, 1) := by decide +kernel
theorem dX8_put_28 : decode cX8_put 28 = .ok (.ifCond .ne 6, 3) := by decide +kernel
theorem dX8_put_31 : decode cX8_put 31 = .ok (.ldc 115, 2) := by decide +kernel
theorem dX8_put_33 : decode cX8_put 33 = .ok (.ireturn, 1) := by decide +kernel
theorem dX8_put_34 : decode cX8_put 34 = .ok (.aload_n 0, 1) := by decide +kernel
theorem dX8_put_35 : decode cX8_put 35 = .ok (.getfield 34, 3) := by decide +kernel
theorem dX8_put_38 : decode cX8_put 38 = .ok (.iload_n 1, 1) := by decide +kernel
theorem dX8_put_39 : decode cX8_put 39 = .ok (.dup2, 1) := by decide +kernel
theorem dX8_put_40 : decode cX8_put 40 = .ok (.iaload, 1) := by decide +kernel
theorem dX8_put_41 : decode cX8_put 41 = .ok (.iload_n 2, 1) := by decide +kernel
theorem dX8_put_42 : decode cX8_put 42 = .ok (.isub, 1) := by decide +kernel
theorem dX8_put_43 : decode cX8_put 43 = .ok (.iastore, 1) := by decide +kernel
theorem dX8_put_44 : decode cX8_put 44 = .ok (.aload_n 0, 1) := by decide +kernel
theorem dX8_put_45 : decode cX8_put 45 = .ok (.getfield 40, 3) := by decide +kernel
theorem dX8_put_48 : decode cX8_put 48 = .ok (.iload_n 1, 1) := by decide +kernel
theorem dX8_put_49 : decode cX8_put 49 = .ok (.dup2, 1) := by decide +kernel
theorem dX8_put_50 : decode cX8_put 50 = .ok (.iaload, 1) := by decide +kernel
theorem dX8_put_51 : decode cX8_put 51 = .ok (.iload_n 2, 1) := by decide +kernel
theorem dX8_put_52 : decode cX8_put 52 = .ok (.isub, 1) := by decide +kernel
theorem dX8_put_53 : decode cX8_put 53 = .ok (.iastore, 1) := by decide +kernel
theorem dX8_put_54 : decode cX8_put 54 = .ok (.aload_n 0, 1) := by decide +kernel
theorem dX8_put_55 : decode cX8_put 55 = .ok (.getfield 34, 3) := by decide +kernel
theorem dX8_put_58 : decode cX8_put 58 = .ok (.iload_n 1, 1) := by decide +kernel
theorem dX8_put_59 : decode cX8_put 59 = .ok (.iaload, 1) := by decide +kernel
theorem dX8_put_60 : decode cX8_put 60 = .ok (.ireturn, 1) := by decide +kernel
theorem dX8_makeRight_0 : decode cX8_makeRight 0 = .ok (.aload_n 0, 1) := by decide +kernel
theorem dX8_makeRight_1 : decode cX8_makeRight 1 = .ok (.getfield 34, 3) := by decide +kernel
theorem dX8_makeRight_4 : decode cX8_makeRight 4 = .ok (.iload_n 1, 1) := by decide +kernel
theorem dX8_makeRight_5 : decode cX8_makeRight 5 = .ok (.iconst 0, 1) := by decide +kernel
theorem dX8_makeRight_6 : decode cX8_makeRight 6 = .ok (.iastore, 1) := by decide +kernel
theorem dX8_makeRight_7 : decode cX8_makeRight 7 = .ok (.aload_n 0, 1) := by decide +kernel
theorem dX8_makeRight_8 : decode cX8_makeRight 8 = .ok (.getfield 40, 3) := by decide +kernel
theorem dX8_makeRight_11 : decode cX8_makeRight 11 = .ok (.iload_n 1, 1) := by decide +kernel
theorem dX8_makeRight_12 : decode cX8_makeRight 12 = .ok (.iconst 0, 1) := by decide +kernel
theorem dX8_makeRight_13 : decode cX8_makeRight 13 = .ok (.iastore, 1) := by decide +kernel
theorem dX8_makeRight_14 : decode cX8_makeRight 14 = .ok (.aload_n 0, 1) := by decide +kernel
theorem dX8_makeRight_15 : decode cX8_makeRight 15 = .ok (.getfield 43, 3) := by decide +kernel
theorem dX8_makeRight_18 : decode cX8_makeRight 18 = .ok (.iload_n 1, 1) := by decide +kernel
theorem dX8_makeRight_19 : decode cX8_makeRight 19 = .ok (.iconst 0, 1) := by decide +kernel
theorem dX8_makeRight_20 : decode cX8_makeRight 20 = .ok (.iastore, 1) := by decide +kernel
theorem dX8_makeRight_21 : decode cX8_makeRight 21 = .ok (.aload_n 0, 1) := by decide +kernel
theorem dX8_makeRight_22 : decode cX8_makeRight 22 = .ok (.getfield 37, 3) := by decide +kernel
theorem dX8_makeRight_25 : decode cX8_makeRight 25 = .ok (.iload_n 1, 1) := by decide +kernel
theorem dX8_makeRight_26 : decode cX8_makeRight 26 = .ok (.iconst 0, 1) := by decide +kernel
theorem dX8_makeRight_27 : decode cX8_makeRight 27 = .ok (.iastore, 1) := by decide +kernel
theorem dX8_makeRight_28 : decode cX8_makeRight 28 = .ok (.return_, 1) := by decide +kernel
set_option maxRecDepth 20000 in
theorem ggX8_right_X8_isDial : GoodIn wsX8_right wsX8_isDial := goodIn_r _ [8, 9, 10, 11, 7, 12, 20, 21, 22, 23, 24, 25, 26, 27, 28, 29, 30, 31, 32, 33, 34, 35, 36, 37, 38, 39, 40, 41, 42, 43, 44, 45, 46, 47, 48, 49, 50, 51, 52, 53, 54, 55, 56, 57, 58, 59, 60, 61, 62, 63, 64, 65, 66, 67] (by decide +kernel) (by decide +kernel)
set_option maxRecDepth 20000 in
theorem gX8_right_X8_isDial : GoodIn wsX8_right (wsV RX8 157 RX8 yX8_isDial wsX8_isDial) := goodIn_app (goodIn_of _ (by decide +kernel)) ggX8_right_X8_isDial
set_option maxRecDepth 20000 in
theorem ggX8_right_X8_makeRight : GoodIn wsX8_right wsX8_makeRight := goodIn_r _ [16, 3, 17, 18, 19, 20, 21, 22, 23, 24, 25, 26, 27, 28, 29, 30, 31, 32, 33, 34, 35, 36, 37, 38, 39, 40, 41, 42, 43, 44, 45, 46, 47, 48, 49, 50, 51, 52, 53, 54, 55, 56, 57, 58, 59, 60, 61, 62, 63, 64, 65, 66, 67] (by decide +kernel) (by decide +kernel)
set_option maxRecDepth 20000 in
theorem gX8_right_X8_makeRight : GoodIn wsX8_right (wsV RX8 162 RX8 yX8_makeRight wsX8_makeRight) := goodIn_app (goodIn_of _ (by decide +kernel)) ggX8_right_X8_makeRight
theorem dX8_right_0 : decode cX8_right 0 = .ok (.aload_n 0, 1) := by decide +kernel
theorem dX8_right_1 : decode cX8_right 1 = .ok (.iconst 0, 1) := by decide +kernel
theorem dX8_right_2 : decode cX8_right 2 = .ok (.putfield 95, 3) := by decide +kernel
theorem dX8_right_5 : decode cX8_right 5 = .ok (.aload_n 0, 1) := by decide +kernel
theorem dX8_right_6 : decode cX8_right 6 = .ok (.iload_n 1, 1) := by decide +kernel
theorem dX8_right_7 : decode cX8_right 7 = .ok (.invokevirtual 157, 3) := by decide +kernel
theorem dX8_right_10 : decode cX8_right 10 = .ok (.ifCond .ne 6, 3) := by decide +kernel
theorem dX8_right_13 : decode cX8_right 13 = .ok (.ldc 115, 2) := by decide +kernel
theorem dX8_right_15 : decode cX8_right 15 = .ok (.ireturn, 1) := by decide +kernel
theorem dX8_right_16 : decode cX8_right 16 = .ok (.aload_n 0, 1) := by decide +kernel
theorem dX8_right_17 : decode cX8_right 17 = .ok (.getfield 34, 3) := by decide +kernel
theorem dX8_right_20 : decode cX8_right 20 = .ok (.iload_n 1, 1) := by decide +kernel
theorem dX8_right_21 : decode cX8_right 21 = .ok (.iaload, 1) := by decide +kernel
theorem dX8_right_22 : decode cX8_right 22 = .ok (.istore_n 2, 1) := by decide +kernel
theorem dX8_right_23 : decode cX8_right 23 = .ok (.aload_n 0, 1) := by decide +kernel
theorem dX8_right_24 : decode cX8_right 24 = .ok (.iload_n 1, 1) := by decide +kernel
theorem dX8_right_25 : decode cX8_right 25 = .ok (.invokevirtual 162, 3) := by decide +kernel
theorem dX8_right_28 : decode cX8_right 28 = .ok (.iload_n 2, 1) := by decide +kernel
theorem dX8_right_29 : decode cX8_right 29 = .ok (.ireturn, 1) := by decide +kernel
theorem dX8_size_0 : decode cX8_size 0 = .ok (.iload_n 0, 1) := by decide +kernel
theorem dX8_size_1 : decode cX8_size 1 = .ok (.ifCond .ge 8, 3) := by decide +kernel
theorem dX8_size_4 : decode cX8_size 4 = .ok (.iload_n 0, 1) := by decide +kernel
theorem dX8_size_5 : decode cX8_size 5 = .ok (.ineg, 1) := by decide +kernel
theorem dX8_size_6 : decode cX8_size 6 = .ok (.goto 4, 3) := by decide +kernel
theorem dX8_size_9 : decode cX8_size 9 = .ok (.iload_n 0, 1) := by decide +kernel
theorem dX8_size_10 : decode cX8_size 10 = .ok (.ireturn, 1) := by decide +kernel
set_option maxRecDepth 20000 in
theorem ggX8_round_X8_in : GoodIn wsX8_round wsX8_in := goodIn_r _ [10] (by decide +kernel) (by decide +kernel)
set_option maxRecDepth 20000 in
theorem gX8_round_X8_in : GoodIn wsX8_round (va_wsS RX8 102 yX8_in wsX8_in) := goodIn_app (goodIn_of _ (by decide +kernel)) ggX8_round_X8_in
set_option maxRecDepth 20000 in
theorem ggX8_round_X8_size : GoodIn wsX8_round wsX8_size := goodIn_r _ [13] (by decide +kernel) (by decide +kernel)
set_option maxRecDepth 20000 in
theorem gX8_round_X8_size : GoodIn wsX8_round (va_wsS RX8 168 yX8_size wsX8_size) := goodIn_app (goodIn_of _ (by decide +kernel)) ggX8_round_X8_size
set_option maxRecDepth 20000 in
theorem ggX8_round_X8_makeRight : GoodIn wsX8_round wsX8_makeRight := goodIn_r _ [17, 6, 18, 19, 20, 21, 22, 23, 24, 25, 26, 27, 28, 29, 30, 31, 32, 33, 34, 35, 36, 37, 38, 39, 40, 41, 42, 43, 44, 45, 46, 47, 48, 49, 50, 51, 52, 53, 54, 55, 56, 57, 58, 59, 60, 61, 62, 63, 64, 65, 66, 67, 68] (by decide +kernel) (by decide +kernel)
set_option maxRecDepth 20000 in
theorem gX8_round_X8_makeRight : GoodIn wsX8_round (wsV RX8 162 RX8 yX8_makeRight wsX8_makeRight) := goodIn_app (goodIn_of _ (by decide +kernel)) ggX8_round_X8_makeRight
theorem dX8_round_0 : decode cX8_round 0 = .ok (.aload_n 0, 1) := by decide +kernel
theorem dX8_round_1 : decode cX8_round 1 = .ok (.iconst 0, 1) := by decide +kernel
theorem dX8_round_2 : decode cX8_round 2 = .ok (.putfield 95, 3) := by decide +kernel
theorem dX8_round_5 : decode cX8_round 5 = .ok (.iload_n 1, 1) := by decide +kernel
theorem dX8_round_6 : decode cX8_round 6 = .ok (.i2l, 1) := by decide +kernel
theorem dX8_round_7 : decode cX8_round 7 = .ok (.lconst 1, 1) := by decide +kernel
theorem dX8_round_8 : decode cX8_round 8 = .ok (.ldc2_w 166, 3) := by decide +kernel
theorem dX8_round_11 : decode cX8_round 11 = .ok (.invokestatic 102, 3) := by decide +kernel
theorem dX8_round_14 : decode cX8_round 14 = .ok (.ifCond .ne 6, 3) := by decide +kernel
theorem dX8_round_17 : decode cX8_round 17 = .ok (.ldc 115, 2) := by decide +kernel
theorem dX8_round_19 : decode cX8_round 19 = .ok (.ireturn, 1) := by decide +kernel
theorem dX8_round_20 : decode cX8_round 20 = .ok (.iconst 0, 1) := by decide +kernel
theorem dX8_round_21 : decode cX8_round 21 = .ok (.istore_n 2, 1) := by decide +kernel
theorem dX8_round_22 : decode cX8_round 22 = .ok (.iconst 1, 1) := by decide +kernel
theorem dX8_round_23 : decode cX8_round 23 = .ok (.istore_n 3, 1) := by decide +kernel
theorem dX8_round_24 : decode cX8_round 24 = .ok (.iload_n 3, 1) := by decide +kernel
theorem dX8_round_25 : decode cX8_round 25 = .ok (.ifCond .eq 103, 3) := by decide +kernel
theorem dX8_round_28 : decode cX8_round 28 = .ok (.iload_n 2, 1) := by decide +kernel
theorem dX8_round_29 : decode cX8_round 29 = .ok (.iload_n 1, 1) := by decide +kernel
theorem dX8_round_30 : decode cX8_round 30 = .ok (.if_icmp .ge 98, 3) := by decide +kernel
theorem dX8_round_33 : decode cX8_round 33 = .ok (.ldc 106, 2) := by decide +kernel
theorem dX8_round_35 : decode cX8_round 35 = .ok (.istore 4, 2) := by decide +kernel
theorem dX8_round_37 : decode cX8_round 37 = .ok (.iconst 0, 1) := by decide +kernel
theorem dX8_round_38 : decode cX8_round 38 = .ok (.istore 5, 2) := by decide +kernel
theorem dX8_round_40 : decode cX8_round 40 = .ok (.iload 5, 2) := by decide +kernel
theorem dX8_round_42 : decode cX8_round 42 = .ok (.aload_n 0, 1) := by decide +kernel
theorem dX8_round_43 : decode cX8_round 43 = .ok (.getfield 128, 3) := by decide +kernel
theorem dX8_round_46 : decode cX8_round 46 = .ok (.if_icmp .ge 53, 3) := by decide +kernel
theorem dX8_round_49 : decode cX8_round 49 = .ok (.aload_n 0, 1) := by decide +kernel
theorem dX8_round_50 : decode cX8_round 50 = .ok (.getfield 34, 3) := by decide +kernel
theorem dX8_round_53 : decode cX8_round 53 = .ok (.iload 5, 2) := by decide +kernel
theorem dX8_round_55 : decode cX8_round 55 = .ok (.iaload, 1) := by decide +kernel
theorem dX8_round_56 : decode cX8_round 56 = .ok (.ifCond .eq 37, 3) := by decide +kernel
theorem dX8_round_59 : decode cX8_round 59 = .ok (.iload 4, 2) := by decide +kernel
theorem dX8_round_61 : decode cX8_round 61 = .ok (.ldc 106, 2) := by decide +kernel
theorem dX8_round_63 : decode cX8_round 63 = .ok (.if_icmp .eq 26, 3) := by decide +kernel
theorem dX8_round_66 : decode cX8_round 66 = .ok (.aload_n 0, 1) := by decide +kernel
theorem dX8_round_67 : decode cX8_round 67 = .ok (.getfield 34, 3) := by decide +kernel
theorem dX8_round_70 : decode cX8_round 70 = .ok (.iload 5, 2) := by decide +kernel
theorem dX8_round_72 : decode cX8_round 72 = .ok (.iaload, 1) := by decide +kernel
theorem dX8_round_73 : decode cX8_round 73 = .ok (.invokestatic 168, 3) := by decide +kernel
theorem dX8_round_76 : decode cX8_round 76 = .ok (.aload_n 0, 1) := by decide +kernel
theorem dX8_round_77 : decode cX8_round 77 = .ok (.getfield 34, 3) := by decide +kernel
theorem dX8_round_80 : decode cX8_round 80 = .ok (.iload 4, 2) := by decide +kernel
theorem dX8_round_82 : decode cX8_round 82 = .ok (.iaload, 1) := by decide +kernel
theorem dX8_round_83 : decode cX8_round 83 = .ok (.invokestatic 168, 3) := by decide +kernel
theorem dX8_round_86 : decode cX8_round 86 = .ok (.if_icmp .le 7, 3) := by decide +kernel
theorem dX8_round_89 : decode cX8_round 89 = .ok (.iload 5, 2) := by decide +kernel
theorem dX8_round_91 : decode cX8_round 91 = .ok (.istore 4, 2) := by decide +kernel
theorem dX8_round_93 : decode cX8_round 93 = .ok (.iinc 5 1, 3) := by decide +kernel
theorem dX8_round_96 : decode cX8_round 96 = .ok (.goto (-56), 3) := by decide +kernel
theorem dX8_round_99 : decode cX8_round 99 = .ok (.iload 4, 2) := by decide +kernel
theorem dX8_round_101 : decode cX8_round 101 = .ok (.ldc 106, 2) := by decide +kernel
theorem dX8_round_103 : decode cX8_round 103 = .ok (.if_icmp .eq 7, 3) := by decide +kernel
theorem dX8_round_106 : decode cX8_round 106 = .ok (.iconst 1, 1) := by decide +kernel
theorem dX8_round_107 : decode cX8_round 107 = .ok (.goto 4, 3) := by decide +kernel
theorem dX8_round_110 : decode cX8_round 110 = .ok (.iconst 0, 1) := by decide +kernel
theorem dX8_round_111 : decode cX8_round 111 = .ok (.istore_n 3, 1) := by decide +kernel
theorem dX8_round_112 : decode cX8_round 112 = .ok (.iload_n 3, 1) := by decide +kernel
theorem dX8_round_113 : decode cX8_round 113 = .ok (.ifCond .eq 12, 3) := by decide +kernel
theorem dX8_round_116 : decode cX8_round 116 = .ok (.aload_n 0, 1) := by decide +kernel
theorem dX8_round_117 : decode cX8_round 117 = .ok (.iload 4, 2) := by decide +kernel
theorem dX8_round_119 : decode cX8_round 119 = .ok (.invokevirtual 162, 3) := by decide +kernel
theorem dX8_round_122 : decode cX8_round 122 = .ok (.iinc 2 1, 3) := by decide +kernel
theorem dX8_round_125 : decode cX8_round 125 = .ok (.goto (-101), 3) := by decide +kernel
theorem dX8_round_128 : decode cX8_round 128 = .ok (.iload_n 2, 1) := by decide +kernel
theorem dX8_round_129 : decode cX8_round 129 = .ok (.ireturn, 1) := by decide +kernel
set_option maxRecDepth 20000 in
theorem ggX8_ahead_X8_isDial : GoodIn wsX8_ahead wsX8_isDial := goodIn_r _ [9, 10, 11, 12, 8, 13, 27, 28, 29, 30, 31, 32, 33, 34, 35, 36, 37, 38, 39, 40, 41, 42, 43, 44, 45, 46, 47, 48, 49, 50, 51, 52, 53, 54, 55, 56, 57, 58, 59, 60, 61, 62, 63, 64, 65, 66, 67, 68, 69, 70, 71, 72, 73, 74] (by decide +kernel) (by decide +kernel)
set_option maxRecDepth 20000 in
theorem gX8_ahead_X8_isDial : GoodIn wsX8_ahead (wsV RX8 157 RX8 yX8_isDial wsX8_isDial) := goodIn_app (goodIn_of _ (by decide +kernel)) ggX8_ahead_X8_isDial
set_option maxRecDepth 20000 in
theorem ggX8_ahead_X8_kindOf : GoodIn wsX8_ahead wsX8_kindOf := goodIn_r _ [17, 18, 19, 27, 28, 29, 30, 31, 32, 33, 34, 35, 36, 37, 38, 39, 40, 41, 42, 43, 44, 45, 46, 47, 48, 49, 50, 51, 52, 53, 54, 55, 56, 57, 58, 59, 60, 61, 62, 63, 64, 65, 66, 67, 68, 69, 70, 71, 72, 73, 74] (by decide +kernel) (by decide +kernel)
set_option maxRecDepth 20000 in
theorem gX8_ahead_X8_kindOf : GoodIn wsX8_ahead (wsV RX8 171 RX8 yX8_kindOf wsX8_kindOf) := goodIn_app (goodIn_of _ (by decide +kernel)) ggX8_ahead_X8_kindOf
set_option maxRecDepth 20000 in
theorem ggX8_ahead_X8_lagOf : GoodIn wsX8_ahead wsX8_lagOf := goodIn_r _ [23, 24, 25, 26, 27, 28, 29, 30, 31, 32, 33, 34, 35, 36, 37, 38, 39, 40, 41, 42, 43, 44, 45, 46, 47, 48, 49, 50, 51, 52, 53, 54, 55, 56, 57, 58, 59, 60, 61, 62, 63, 64, 65, 66, 67, 68, 69, 70, 71, 72, 73, 74] (by decide +kernel) (by decide +kernel)
set_option maxRecDepth 20000 in
theorem gX8_ahead_X8_lagOf : GoodIn wsX8_ahead (wsV RX8 124 RX8 yX8_lagOf wsX8_lagOf) := goodIn_app (goodIn_of _ (by decide +kernel)) ggX8_ahead_X8_lagOf
theorem dX8_ahead_0 : decode cX8_ahead 0 = .ok (.aload_n 0, 1) := by decide +kernel
theorem dX8_ahead_1 : decode cX8_ahead 1 = .ok (.iconst 0, 1) := by decide +kernel
theorem dX8_ahead_2 : decode cX8_ahead 2 = .ok (.putfield 95, 3) := by decide +kernel
theorem dX8_ahead_5 : decode cX8_ahead 5 = .ok (.aload_n 0, 1) := by decide +kernel
theorem dX8_ahead_6 : decode cX8_ahead 6 = .ok (.iload_n 1, 1) := by decide +kernel
theorem dX8_ahead_7 : decode cX8_ahead 7 = .ok (.invokevirtual 157, 3) := by decide +kernel
theorem dX8_ahead_10 : decode cX8_ahead 10 = .ok (.ifCond .ne 6, 3) := by decide +kernel
theorem dX8_ahead_13 : decode cX8_ahead 13 = .ok (.ldc 115, 2) := by decide +kernel
theorem dX8_ahead_15 : decode cX8_ahead 15 = .ok (.ireturn, 1) := by decide +kernel
theorem dX8_ahead_16 : decode cX8_ahead 16 = .ok (.aload_n 0, 1) := by decide +kernel
theorem dX8_ahead_17 : decode cX8_ahead 17 = .ok (.iload_n 1, 1) := by decide +kernel
theorem dX8_ahead_18 : decode cX8_ahead 18 = .ok (.invokevirtual 171, 3) := by decide +kernel
theorem dX8_ahead_21 : decode cX8_ahead 21 = .ok (.istore_n 2, 1) := by decide +kernel
theorem dX8_ahead_22 : decode cX8_ahead 22 = .ok (.iload_n 2, 1) := by decide +kernel
theorem dX8_ahead_23 : decode cX8_ahead 23 = .ok (.iconst 1, 1) := by decide +kernel
theorem dX8_ahead_24 : decode cX8_ahead 24 = .ok (.if_icmp .eq 13, 3) := by decide +kernel
theorem dX8_ahead_27 : decode cX8_ahead 27 = .ok (.iload_n 2, 1) := by decide +kernel
theorem dX8_ahead_28 : decode cX8_ahead 28 = .ok (.iconst 2, 1) := by decide +kernel
theorem dX8_ahead_29 : decode cX8_ahead 29 = .ok (.if_icmp .eq 8, 3) := by decide +kernel
theorem dX8_ahead_32 : decode cX8_ahead 32 = .ok (.ldc 174, 2) := by decide +kernel
theorem dX8_ahead_34 : decode cX8_ahead 34 = .ok (.goto 22, 3) := by decide +kernel
theorem dX8_ahead_37 : decode cX8_ahead 37 = .ok (.aload_n 0, 1) := by decide +kernel
theorem dX8_ahead_38 : decode cX8_ahead 38 = .ok (.aload_n 0, 1) := by decide +kernel
theorem dX8_ahead_39 : decode cX8_ahead 39 = .ok (.getfield 25, 3) := by decide +kernel
theorem dX8_ahead_42 : decode cX8_ahead 42 = .ok (.iload_n 1, 1) := by decide +kernel
theorem dX8_ahead_43 : decode cX8_ahead 43 = .ok (.iaload, 1) := by decide +kernel
theorem dX8_ahead_44 : decode cX8_ahead 44 = .ok (.invokevirtual 124, 3) := by decide +kernel
theorem dX8_ahead_47 : decode cX8_ahead 47 = .ok (.bipush 9, 2) := by decide +kernel
theorem dX8_ahead_49 : decode cX8_ahead 49 = .ok (.iadd, 1) := by decide +kernel
theorem dX8_ahead_50 : decode cX8_ahead 50 = .ok (.bipush 10, 2) := by decide +kernel
theorem dX8_ahead_52 : decode cX8_ahead 52 = .ok (.idiv, 1) := by decide +kernel
theorem dX8_ahead_53 : decode cX8_ahead 53 = .ok (.bipush 10, 2) := by decide +kernel
theorem dX8_ahead_55 : decode cX8_ahead 55 = .ok (.imul, 1) := by decide +kernel
theorem dX8_ahead_56 : decode cX8_ahead 56 = .ok (.ireturn, 1) := by decide +kernel
set_option maxRecDepth 20000 in
theorem ggX8_mark_X8_isDial : GoodIn wsX8_mark wsX8_isDial := goodIn_r _ [9, 4, 10, 11, 8, 12, 13, 14, 15, 16, 17, 18, 19, 20, 21, 22, 23, 24, 25, 26, 27, 28, 29, 30, 31, 32, 33, 34, 35, 36, 37, 38, 39, 40, 41, 42, 43, 44, 45, 46, 47, 48, 49, 50, 51, 52, 53, 54, 55, 56, 57, 58, 59, 60] (by decide +kernel) (by decide +kernel)
set_option maxRecDepth 20000 in
theorem gX8_mark_X8_isDial : GoodIn wsX8_mark (wsV RX8 157 RX8 yX8_isDial wsX8_isDial) := goodIn_app (goodIn_of _ (by decide +kernel)) ggX8_mark_X8_isDial
set_option maxRecDepth 20000 in
theorem ggX8_mark_X8_in : GoodIn wsX8_mark wsX8_in := goodIn_r _ [12] (by decide +kernel) (by decide +kernel)
set_option maxRecDepth 20000 in
theorem gX8_mark_X8_in : GoodIn wsX8_mark (va_wsS RX8 102 yX8_in wsX8_in) := goodIn_app (goodIn_of _ (by decide +kernel)) ggX8_mark_X8_in
theorem dX8_mark_0 : decode cX8_mark 0 = .ok (.aload_n 0, 1) := by decide +kernel
theorem dX8_mark_1 : decode cX8_mark 1 = .ok (.iconst 0, 1) := by decide +kernel
theorem dX8_mark_2 : decode cX8_mark 2 = .ok (.putfield 95, 3) := by decide +kernel
theorem dX8_mark_5 : decode cX8_mark 5 = .ok (.aload_n 0, 1) := by decide +kernel
theorem dX8_mark_6 : decode cX8_mark 6 = .ok (.iload_n 1, 1) := by decide +kernel
theorem dX8_mark_7 : decode cX8_mark 7 = .ok (.invokevirtual 157, 3) := by decide +kernel
theorem dX8_mark_10 : decode cX8_mark 10 = .ok (.ifCond .eq 13, 3) := by decide +kernel
theorem dX8_mark_13 : decode cX8_mark 13 = .ok (.iload_n 2, 1) := by decide +kernel
theorem dX8_mark_14 : decode cX8_mark 14 = .ok (.i2l, 1) := by decide +kernel
theorem dX8_mark_15 : decode cX8_mark 15 = .ok (.lconst 0, 1) := by decide +kernel
theorem dX8_mark_16 : decode cX8_mark 16 = .ok (.lconst 1, 1) := by decide +kernel
theorem dX8_mark_17 : decode cX8_mark 17 = .ok (.invokestatic 102, 3) := by decide +kernel
theorem dX8_mark_20 : decode cX8_mark 20 = .ok (.ifCond .ne 6, 3) := by decide +kernel
theorem dX8_mark_23 : decode cX8_mark 23 = .ok (.ldc 115, 2) := by decide +kernel
theorem dX8_mark_25 : decode cX8_mark 25 = .ok (.ireturn, 1) := by decide +kernel
theorem dX8_mark_26 : decode cX8_mark 26 = .ok (.aload_n 0, 1) := by decide +kernel
theorem dX8_mark_27 : decode cX8_mark 27 = .ok (.getfield 50, 3) := by decide +kernel
theorem dX8_mark_30 : decode cX8_mark 30 = .ok (.iload_n 1, 1) := by decide +kernel
theorem dX8_mark_31 : decode cX8_mark 31 = .ok (.iload_n 2, 1) := by decide +kernel
theorem dX8_mark_32 : decode cX8_mark 32 = .ok (.iconst 1, 1) := by decide +kernel
theorem dX8_mark_33 : decode cX8_mark 33 = .ok (.if_icmp .ne 7, 3) := by decide +kernel
theorem dX8_mark_36 : decode cX8_mark 36 = .ok (.iconst 1, 1) := by decide +kernel
theorem dX8_mark_37 : decode cX8_mark 37 = .ok (.goto 4, 3) := by decide +kernel
theorem dX8_mark_40 : decode cX8_mark 40 = .ok (.iconst 0, 1) := by decide +kernel
theorem dX8_mark_41 : decode cX8_mark 41 = .ok (.bastore, 1) := by decide +kernel
theorem dX8_mark_42 : decode cX8_mark 42 = .ok (.iconst 0, 1) := by decide +kernel
theorem dX8_mark_43 : decode cX8_mark 43 = .ok (.istore_n 3, 1) := by decide +kernel
theorem dX8_mark_44 : decode cX8_mark 44 = .ok (.iconst 0, 1) := by decide +kernel
theorem dX8_mark_45 : decode cX8_mark 45 = .ok (.istore 4, 2) := by decide +kernel
theorem dX8_mark_47 : decode cX8_mark 47 = .ok (.iload 4, 2) := by decide +kernel
theorem dX8_mark_49 : decode cX8_mark 49 = .ok (.aload_n 0, 1) := by decide +kernel
theorem dX8_mark_50 : decode cX8_mark 50 = .ok (.getfield 128, 3) := by decide +kernel
theorem dX8_mark_53 : decode cX8_mark 53 = .ok (.if_icmp .ge 27, 3) := by decide +kernel
theorem dX8_mark_56 : decode cX8_mark 56 = .ok (.iload_n 3, 1) := by decide +kernel
theorem dX8_mark_57 : decode cX8_mark 57 = .ok (.aload_n 0, 1) := by decide +kernel
theorem dX8_mark_58 : decode cX8_mark 58 = .ok (.getfield 50, 3) := by decide +kernel
theorem dX8_mark_61 : decode cX8_mark 61 = .ok (.iload 4, 2) := by decide +kernel
theorem dX8_mark_63 : decode cX8_mark 63 = .ok (.baload, 1) := by decide +kernel
theorem dX8_mark_64 : decode cX8_mark 64 = .ok (.ifCond .eq 7, 3) := by decide +kernel
theorem dX8_mark_67 : decode cX8_mark 67 = .ok (.iconst 1, 1) := by decide +kernel
theorem dX8_mark_68 : decode cX8_mark 68 = .ok (.goto 4, 3) := by decide +kernel
theorem dX8_mark_71 : decode cX8_mark 71 = .ok (.iconst 0, 1) := by decide +kernel
theorem dX8_mark_72 : decode cX8_mark 72 = .ok (.iadd, 1) := by decide +kernel
theorem dX8_mark_73 : decode cX8_mark 73 = .ok (.istore_n 3, 1) := by decide +kernel
theorem dX8_mark_74 : decode cX8_mark 74 = .ok (.iinc 4 1, 3) := by decide +kernel
theorem dX8_mark_77 : decode cX8_mark 77 = .ok (.goto (-30), 3) := by decide +kernel
theorem dX8_mark_80 : decode cX8_mark 80 = .ok (.iload_n 3, 1) := by decide +kernel
theorem dX8_mark_81 : decode cX8_mark 81 = .ok (.ireturn, 1) := by decide +kernel
set_option maxRecDepth 20000 in
theorem ggX8_isExplained_X8_findAirBy : GoodIn wsX8_isExplained wsX8_findAirBy := goodIn_r _ [11, 12, 13, 14, 3, 15, 16, 17, 18, 19, 20, 21, 22, 23, 24, 25, 26, 27, 28, 29, 30, 31, 32, 33, 34, 35, 36, 37, 38, 39, 40, 41, 42, 43, 44, 45, 46, 47, 48, 49, 50, 51, 52, 53, 54, 55, 56, 57, 58, 59, 60, 61, 62, 63] (by decide +kernel) (by decide +kernel)
set_option maxRecDepth 20000 in
theorem gX8_isExplained_X8_findAirBy : GoodIn wsX8_isExplained (wsV RX8 175 RX8 yX8_findAirBy wsX8_findAirBy) := goodIn_app (goodIn_of _ (by decide +kernel)) ggX8_isExplained_X8_findAirBy
theorem dX8_isExplained_0 : decode cX8_isExplained 0 = .ok (.aload_n 0, 1) := by decide +kernel
theorem dX8_isExplained_1 : decode cX8_isExplained 1 = .ok (.iload_n 1, 1) := by decide +kernel
theorem dX8_isExplained_2 : decode cX8_isExplained 2 = .ok (.iload_n 2, 1) := by decide +kernel
theorem dX8_isExplained_3 : decode cX8_isExplained 3 = .ok (.invokevirtual 175, 3) := by decide +kernel
theorem dX8_isExplained_6 : decode cX8_isExplained 6 = .ok (.iconst 1, 1) := by decide +kernel
theorem dX8_isExplained_7 : decode cX8_isExplained 7 = .ok (.istore_n 3, 1) := by decide +kernel
theorem dX8_isExplained_8 : decode cX8_isExplained 8 = .ok (.iconst 0, 1) := by decide +kernel
theorem dX8_isExplained_9 : decode cX8_isExplained 9 = .ok (.istore 4, 2) := by decide +kernel
theorem dX8_isExplained_11 : decode cX8_isExplained 11 = .ok (.iload 4, 2) := by decide +kernel
theorem dX8_isExplained_13 : decode cX8_isExplained 13 = .ok (.aload_n 0, 1) := by decide +kernel
theorem dX8_isExplained_14 : decode cX8_isExplained 14 = .ok (.getfield 128, 3) := by decide +kernel
theorem dX8_isExplained_17 : decode cX8_isExplained 17 = .ok (.if_icmp .ge 66, 3) := by decide +kernel
theorem dX8_isExplained_20 : decode cX8_isExplained 20 = .ok (.iload_n 3, 1) := by decide +kernel
theorem dX8_isExplained_21 : decode cX8_isExplained 21 = .ok (.ifCond .eq 54, 3) := by decide +kernel
theorem dX8_isExplained_24 : decode cX8_isExplained 24 = .ok (.aload_n 0, 1) := by decide +kernel
theorem dX8_isExplained_25 : decode cX8_isExplained 25 = .ok (.getfield 71, 3) := by decide +kernel
theorem dX8_isExplained_28 : decode cX8_isExplained 28 = .ok (.iload 4, 2) := by decide +kernel
theorem dX8_isExplained_30 : decode cX8_isExplained 30 = .ok (.baload, 1) := by decide +kernel
theorem dX8_isExplained_31 : decode cX8_isExplained 31 = .ok (.ifCond .eq 40, 3) := by decide +kernel
theorem dX8_isExplained_34 : decode cX8_isExplained 34 = .ok (.aload_n 0, 1) := by decide +kernel
theorem dX8_isExplained_35 : decode cX8_isExplained 35 = .ok (.getfield 22, 3) := by decide +kernel
theorem dX8_isExplained_38 : decode cX8_isExplained 38 = .ok (.aload_n 0, 1) := by decide +kernel
theorem dX8_isExplained_39 : decode cX8_isExplained 39 = .ok (.getfield 25, 3) := by decide +kernel
theorem dX8_isExplained_42 : decode cX8_isExplained 42 = .ok (.iload 4, 2) := by decide +kernel
theorem dX8_isExplained_44 : decode cX8_isExplained 44 = .ok (.iaload, 1) := by decide +kernel
theorem dX8_isExplained_45 : decode cX8_isExplained 45 = .ok (.iaload, 1) := by decide +kernel
theorem dX8_isExplained_46 : decode cX8_isExplained 46 = .ok (.aload_n 0, 1) := by decide +kernel
theorem dX8_isExplained_47 : decode cX8_isExplained 47 = .ok (.getfield 28, 3) := by decide +kernel
theorem dX8_isExplained_50 : decode cX8_isExplained 50 = .ok (.iload 4, 2) := by decide +kernel
theorem dX8_isExplained_52 : decode cX8_isExplained 52 = .ok (.iaload, 1) := by decide +kernel
theorem dX8_isExplained_53 : decode cX8_isExplained 53 = .ok (.if_icmp .ge 7, 3) := by decide +kernel
theorem dX8_isExplained_56 : decode cX8_isExplained 56 = .ok (.iconst 1, 1) := by decide +kernel
theorem dX8_isExplained_57 : decode cX8_isExplained 57 = .ok (.goto 4, 3) := by decide +kernel
theorem dX8_isExplained_60 : decode cX8_isExplained 60 = .ok (.iconst 0, 1) := by decide +kernel
theorem dX8_isExplained_61 : decode cX8_isExplained 61 = .ok (.aload_n 0, 1) := by decide +kernel
theorem dX8_isExplained_62 : decode cX8_isExplained 62 = .ok (.getfield 50, 3) := by decide +kernel
theorem dX8_isExplained_65 : decode cX8_isExplained 65 = .ok (.iload 4, 2) := by decide +kernel
theorem dX8_isExplained_67 : decode cX8_isExplained 67 = .ok (.baload, 1) := by decide +kernel
theorem dX8_isExplained_68 : decode cX8_isExplained 68 = .ok (.if_icmp .ne 7, 3) := by decide +kernel
theorem dX8_isExplained_71 : decode cX8_isExplained 71 = .ok (.iconst 1, 1) := by decide +kernel
theorem dX8_isExplained_72 : decode cX8_isExplained 72 = .ok (.goto 4, 3) := by decide +kernel
theorem dX8_isExplained_75 : decode cX8_isExplained 75 = .ok (.iconst 0, 1) := by decide +kernel
theorem dX8_isExplained_76 : decode cX8_isExplained 76 = .ok (.istore_n 3, 1) := by decide +kernel
theorem dX8_isExplained_77 : decode cX8_isExplained 77 = .ok (.iinc 4 1, 3) := by decide +kernel
theorem dX8_isExplained_80 : decode cX8_isExplained 80 = .ok (.goto (-69), 3) := by decide +kernel
theorem dX8_isExplained_83 : decode cX8_isExplained 83 = .ok (.iload_n 3, 1) := by decide +kernel
theorem dX8_isExplained_84 : decode cX8_isExplained 84 = .ok (.ireturn, 1) := by decide +kernel
set_option maxRecDepth 20000 in
theorem ggX8_findAll_X8_findAirBy : GoodIn wsX8_findAll wsX8_findAirBy := goodIn_r _ [15, 8, 16, 1, 4, 17, 23, 24, 25, 26, 27, 28, 29, 30, 31, 32, 33, 34, 35, 36, 37, 38, 39, 40, 41, 42, 43, 44, 45, 46, 47, 48, 49, 50, 51, 52, 53, 54, 55, 56, 57, 58, 59, 60, 61, 62, 63, 64, 65, 66, 67, 68, 69, 70] (by decide +kernel) (by decide +kernel)
set_option maxRecDepth 20000 in
theorem gX8_findAll_X8_findAirBy : GoodIn wsX8_findAll (wsV RX8 175 RX8 yX8_findAirBy wsX8_findAirBy) := goodIn_app (goodIn_of _ (by decide +kernel)) ggX8_findAll_X8_findAirBy
set_option maxRecDepth 20000 in
theorem ggX8_findAll_X8_isExplained : GoodIn wsX8_findAll wsX8_isExplained := goodIn_r _ [21, 2, 3, 4, 5, 6, 22, 11, 12, 13, 14, 15, 8, 16, 1, 17, 23, 24, 25, 26, 27, 28, 29, 30, 31, 32, 33, 34, 35, 36, 37, 38, 39, 40, 41, 42, 43, 44, 45, 46, 47, 48, 49, 50, 51, 52, 53, 54, 55, 56, 57, 58, 59, 60, 61, 62, 63, 64, 65, 66, 67, 68, 69, 70] (by decide +kernel) (by decide +kernel)
set_option maxRecDepth 20000 in
theorem gX8_findAll_X8_isExplained : GoodIn wsX8_findAll (wsV RX8 182 RX8 yX8_isExplained wsX8_isExplained) := goodIn_app (goodIn_of _ (by decide +kernel)) ggX8_findAll_X8_isExplained
theorem dX8_findAll_0 : decode cX8_findAll 0 = .ok (.aload_n 0, 1) := by decide +kernel
theorem dX8_findAll_1 : decode cX8_findAll 1 = .ok (.ldc 106, 2) := by decide +kernel
theorem dX8_findAll_3 : decode cX8_findAll 3 = .ok (.iconst 0, 1) := by decide +kernel
theorem dX8_findAll_4 : decode cX8_findAll 4 = .ok (.invokevirtual 175, 3) := by decide +kernel
theorem dX8_findAll_7 : decode cX8_findAll 7 = .ok (.iconst 0, 1) := by decide +kernel
theorem dX8_findAll_8 : decode cX8_findAll 8 = .ok (.istore_n 1, 1) := by decide +kernel
theorem dX8_findAll_9 : decode cX8_findAll 9 = .ok (.iload_n 1, 1) := by decide +kernel
theorem dX8_findAll_10 : decode cX8_findAll 10 = .ok (.aload_n 0, 1) := by decide +kernel
theorem dX8_findAll_11 : decode cX8_findAll 11 = .ok (.getfield 128, 3) := by decide +kernel
theorem dX8_findAll_14 : decode cX8_findAll 14 = .ok (.if_icmp .ge 40, 3) := by decide +kernel
theorem dX8_findAll_17 : decode cX8_findAll 17 = .ok (.aload_n 0, 1) := by decide +kernel
theorem dX8_findAll_18 : decode cX8_findAll 18 = .ok (.getfield 71, 3) := by decide +kernel
theorem dX8_findAll_21 : decode cX8_findAll 21 = .ok (.iload_n 1, 1) := by decide +kernel
theorem dX8_findAll_22 : decode cX8_findAll 22 = .ok (.aload_n 0, 1) := by decide +kernel
theorem dX8_findAll_23 : decode cX8_findAll 23 = .ok (.getfield 22, 3) := by decide +kernel
theorem dX8_findAll_26 : decode cX8_findAll 26 = .ok (.aload_n 0, 1) := by decide +kernel
theorem dX8_findAll_27 : decode cX8_findAll 27 = .ok (.getfield 25, 3) := by decide +kernel
theorem dX8_findAll_30 : decode cX8_findAll 30 = .ok (.iload_n 1, 1) := by decide +kernel
theorem dX8_findAll_31 : decode cX8_findAll 31 = .ok (.iaload, 1) := by decide +kernel
theorem dX8_findAll_32 : decode cX8_findAll 32 = .ok (.iaload, 1) := by decide +kernel
theorem dX8_findAll_33 : decode cX8_findAll 33 = .ok (.aload_n 0, 1) := by decide +kernel
theorem dX8_findAll_34 : decode cX8_findAll 34 = .ok (.getfield 28, 3) := by decide +kernel
theorem dX8_findAll_37 : decode cX8_findAll 37 = .ok (.iload_n 1, 1) := by decide +kernel
theorem dX8_findAll_38 : decode cX8_findAll 38 = .ok (.iaload, 1) := by decide +kernel
theorem dX8_findAll_39 : decode cX8_findAll 39 = .ok (.if_icmp .lt 7, 3) := by decide +kernel
theorem dX8_findAll_42 : decode cX8_findAll 42 = .ok (.iconst 1, 1) := by decide +kernel
theorem dX8_findAll_43 : decode cX8_findAll 43 = .ok (.goto 4, 3) := by decide +kernel
theorem dX8_findAll_46 : decode cX8_findAll 46 = .ok (.iconst 0, 1) := by decide +kernel
theorem dX8_findAll_47 : decode cX8_findAll 47 = .ok (.bastore, 1) := by decide +kernel
theorem dX8_findAll_48 : decode cX8_findAll 48 = .ok (.iinc 1 1, 3) := by decide +kernel
theorem dX8_findAll_51 : decode cX8_findAll 51 = .ok (.goto (-42), 3) := by decide +kernel
theorem dX8_findAll_54 : decode cX8_findAll 54 = .ok (.aload_n 0, 1) := by decide +kernel
theorem dX8_findAll_55 : decode cX8_findAll 55 = .ok (.iconst 0, 1) := by decide +kernel
theorem dX8_findAll_56 : decode cX8_findAll 56 = .ok (.putfield 179, 3) := by decide +kernel
theorem dX8_findAll_59 : decode cX8_findAll 59 = .ok (.iconst 0, 1) := by decide +kernel
theorem dX8_findAll_60 : decode cX8_findAll 60 = .ok (.istore_n 1, 1) := by decide +kernel
theorem dX8_findAll_61 : decode cX8_findAll 61 = .ok (.iload_n 1, 1) := by decide +kernel
theorem dX8_findAll_62 : decode cX8_findAll 62 = .ok (.aload_n 0, 1) := by decide +kernel
theorem dX8_findAll_63 : decode cX8_findAll 63 = .ok (.getfield 99, 3) := by decide +kernel
theorem dX8_findAll_66 : decode cX8_findAll 66 = .ok (.if_icmp .ge 68, 3) := by decide +kernel
theorem dX8_findAll_69 : decode cX8_findAll 69 = .ok (.iconst 1, 1) := by decide +kernel
theorem dX8_findAll_70 : decode cX8_findAll 70 = .ok (.istore_n 2, 1) := by decide +kernel
theorem dX8_findAll_71 : decode cX8_findAll 71 = .ok (.iload_n 2, 1) := by decide +kernel
theorem dX8_findAll_72 : decode cX8_findAll 72 = .ok (.bipush 60, 2) := by decide +kernel
theorem dX8_findAll_74 : decode cX8_findAll 74 = .ok (.if_icmp .gt 18, 3) := by decide +kernel
theorem dX8_findAll_77 : decode cX8_findAll 77 = .ok (.aload_n 0, 1) := by decide +kernel
theorem dX8_findAll_78 : decode cX8_findAll 78 = .ok (.iload_n 1, 1) := by decide +kernel
theorem dX8_findAll_79 : decode cX8_findAll 79 = .ok (.iload_n 2, 1) := by decide +kernel
theorem dX8_findAll_80 : decode cX8_findAll 80 = .ok (.invokevirtual 182, 3) := by decide +kernel
theorem dX8_findAll_83 : decode cX8_findAll 83 = .ok (.ifCond .ne 9, 3) := by decide +kernel
theorem dX8_findAll_86 : decode cX8_findAll 86 = .ok (.iinc 2 1, 3) := by decide +kernel
theorem dX8_findAll_89 : decode cX8_findAll 89 = .ok (.goto (-18), 3) := by decide +kernel
theorem dX8_findAll_92 : decode cX8_findAll 92 = .ok (.iload_n 2, 1) := by decide +kernel
theorem dX8_findAll_93 : decode cX8_findAll 93 = .ok (.bipush 60, 2) := by decide +kernel
theorem dX8_findAll_95 : decode cX8_findAll 95 = .ok (.if_icmp .gt 33, 3) := by decide +kernel
theorem dX8_findAll_98 : decode cX8_findAll 98 = .ok (.aload_n 0, 1) := by decide +kernel
theorem dX8_findAll_99 : decode cX8_findAll 99 = .ok (.getfield 65, 3) := by decide +kernel
theorem dX8_findAll_102 : decode cX8_findAll 102 = .ok (.aload_n 0, 1) := by decide +kernel
theorem dX8_findAll_103 : decode cX8_findAll 103 = .ok (.getfield 179, 3) := by decide +kernel
theorem dX8_findAll_106 : decode cX8_findAll 106 = .ok (.iload_n 1, 1) := by decide +kernel
theorem dX8_findAll_107 : decode cX8_findAll 107 = .ok (.iastore, 1) := by decide +kernel
theorem dX8_findAll_108 : decode cX8_findAll 108 = .ok (.aload_n 0, 1) := by decide +kernel
theorem dX8_findAll_109 : decode cX8_findAll 109 = .ok (.getfield 68, 3) := by decide +kernel
theorem dX8_findAll_112 : decode cX8_findAll 112 = .ok (.aload_n 0, 1) := by decide +kernel
theorem dX8_findAll_113 : decode cX8_findAll 113 = .ok (.getfield 179, 3) := by decide +kernel
theorem dX8_findAll_116 : decode cX8_findAll 116 = .ok (.iload_n 2, 1) := by decide +kernel
theorem dX8_findAll_117 : decode cX8_findAll 117 = .ok (.iastore, 1) := by decide +kernel
theorem dX8_findAll_118 : decode cX8_findAll 118 = .ok (.aload_n 0, 1) := by decide +kernel
theorem dX8_findAll_119 : decode cX8_findAll 119 = .ok (.dup, 1) := by decide +kernel
theorem dX8_findAll_120 : decode cX8_findAll 120 = .ok (.getfield 179, 3) := by decide +kernel
theorem dX8_findAll_123 : decode cX8_findAll 123 = .ok (.iconst 1, 1) := by decide +kernel
theorem dX8_findAll_124 : decode cX8_findAll 124 = .ok (.iadd, 1) := by decide +kernel
theorem dX8_findAll_125 : decode cX8_findAll 125 = .ok (.putfield 179, 3) := by decide +kernel
theorem dX8_findAll_128 : decode cX8_findAll 128 = .ok (.iinc 1 1, 3) := by decide +kernel
theorem dX8_findAll_131 : decode cX8_findAll 131 = .ok (.goto (-70), 3) := by decide +kernel
theorem dX8_findAll_134 : decode cX8_findAll 134 = .ok (.return_, 1) := by decide +kernel
set_option maxRecDepth 20000 in
theorem ggX8_explains_X8_in : GoodIn wsX8_explains wsX8_in := goodIn_r _ [10] (by decide +kernel) (by decide +kernel)
set_option maxRecDepth 20000 in
theorem gX8_explains_X8_in : GoodIn wsX8_explains (va_wsS RX8 102 yX8_in wsX8_in) := goodIn_app (goodIn_of _ (by decide +kernel)) ggX8_explains_X8_in
set_option maxRecDepth 20000 in
theorem ggX8_explains_X8_findAll : GoodIn wsX8_explains wsX8_findAll := goodIn_r _ [14, 4, 15, 16, 17, 18, 19, 3, 20, 5, 6, 21, 22, 23, 9, 24, 25, 26, 27, 28, 29, 30, 31, 32, 33, 34, 35, 36, 37, 38, 39, 40, 41, 42, 43, 44, 45, 46, 47, 48, 49, 50, 51, 52, 53, 54, 55, 56, 57, 58, 59, 60, 61, 62, 63, 64, 65, 66, 67, 68, 69, 70, 71, 72, 73, 74, 75, 76, 77, 78, 79] (by decide +kernel) (by decide +kernel)
set_option maxRecDepth 20000 in
theorem gX8_explains_X8_findAll : GoodIn wsX8_explains (wsV RX8 186 RX8 yX8_findAll wsX8_findAll) := goodIn_app (goodIn_of _ (by decide +kernel)) ggX8_explains_X8_findAll
theorem dX8_explains_0 : decode cX8_explains 0 = .ok (.aload_n 0, 1) := by decide +kernel
theorem dX8_explains_1 : decode cX8_explains 1 = .ok (.iconst 0, 1) := by decide +kernel
theorem dX8_explains_2 : decode cX8_explains 2 = .ok (.putfield 95, 3) := by decide +kernel
theorem dX8_explains_5 : decode cX8_explains 5 = .ok (.iload_n 2, 1) := by decide +kernel
theorem dX8_explains_6 : decode cX8_explains 6 = .ok (.i2l, 1) := by decide +kernel
theorem dX8_explains_7 : decode cX8_explains 7 = .ok (.lconst 0, 1) := by decide +kernel
theorem dX8_explains_8 : decode cX8_explains 8 = .ok (.lconst 1, 1) := by decide +kernel
theorem dX8_explains_9 : decode cX8_explains 9 = .ok (.invokestatic 102, 3) := by decide +kernel
theorem dX8_explains_12 : decode cX8_explains 12 = .ok (.ifCond .ne 6, 3) := by decide +kernel
theorem dX8_explains_15 : decode cX8_explains 15 = .ok (.ldc 115, 2) := by decide +kernel
theorem dX8_explains_17 : decode cX8_explains 17 = .ok (.ireturn, 1) := by decide +kernel
theorem dX8_explains_18 : decode cX8_explains 18 = .ok (.aload_n 0, 1) := by decide +kernel
theorem dX8_explains_19 : decode cX8_explains 19 = .ok (.invokevirtual 186, 3) := by decide +kernel
theorem dX8_explains_22 : decode cX8_explains 22 = .ok (.iload_n 1, 1) := by decide +kernel
theorem dX8_explains_23 : decode cX8_explains 23 = .ok (.i2l, 1) := by decide +kernel
theorem dX8_explains_24 : decode cX8_explains 24 = .ok (.lconst 0, 1) := by decide +kernel
theorem dX8_explains_25 : decode cX8_explains 25 = .ok (.aload_n 0, 1) := by decide +kernel
theorem dX8_explains_26 : decode cX8_explains 26 = .ok (.getfield 179, 3) := by decide +kernel
theorem dX8_explains_29 : decode cX8_explains 29 = .ok (.iconst 1, 1) := by decide +kernel
theorem dX8_explains_30 : decode cX8_explains 30 = .ok (.isub, 1) := by decide +kernel
theorem dX8_explains_31 : decode cX8_explains 31 = .ok (.i2l, 1) := by decide +kernel
theorem dX8_explains_32 : decode cX8_explains 32 = .ok (.invokestatic 102, 3) := by decide +kernel
theorem dX8_explains_35 : decode cX8_explains 35 = .ok (.ifCond .ne 8, 3) := by decide +kernel
theorem dX8_explains_38 : decode cX8_explains 38 = .ok (.ldc 106, 2) := by decide +kernel
theorem dX8_explains_40 : decode cX8_explains 40 = .ok (.goto 22, 3) := by decide +kernel
theorem dX8_explains_43 : decode cX8_explains 43 = .ok (.iload_n 2, 1) := by decide +kernel
theorem dX8_explains_44 : decode cX8_explains 44 = .ok (.ifCond .ne 12, 3) := by decide +kernel
theorem dX8_explains_47 : decode cX8_explains 47 = .ok (.aload_n 0, 1) := by decide +kernel
theorem dX8_explains_48 : decode cX8_explains 48 = .ok (.getfield 65, 3) := by decide +kernel
theorem dX8_explains_51 : decode cX8_explains 51 = .ok (.iload_n 1, 1) := by decide +kernel
theorem dX8_explains_52 : decode cX8_explains 52 = .ok (.iaload, 1) := by decide +kernel
theorem dX8_explains_53 : decode cX8_explains 53 = .ok (.goto 9, 3) := by decide +kernel
theorem dX8_explains_56 : decode cX8_explains 56 = .ok (.aload_n 0, 1) := by decide +kernel
theorem dX8_explains_57 : decode cX8_explains 57 = .ok (.getfield 68, 3) := by decide +kernel
theorem dX8_explains_60 : decode cX8_explains 60 = .ok (.iload_n 1, 1) := by decide +kernel
theorem dX8_explains_61 : decode cX8_explains 61 = .ok (.iaload, 1) := by decide +kernel
theorem dX8_explains_62 : decode cX8_explains 62 = .ok (.ireturn, 1) := by decide +kernel
set_option maxRecDepth 20000 in
theorem ggX8_next_X8_findAll : GoodIn wsX8_next wsX8_findAll := goodIn_r _ [15, 4, 3, 16, 9, 10, 17, 2, 7, 5, 6, 18, 19, 20, 14, 21, 22, 23, 24, 25, 26, 27, 28, 29, 30, 31, 32, 33, 34, 35, 36, 37, 38, 39, 40, 41, 42, 43, 44, 45, 46, 47, 48, 49, 50, 51, 52, 53, 54, 55, 56, 57, 58, 59, 60, 61, 62, 63, 64, 65, 66, 67, 68, 69, 70, 71, 72, 73, 74, 75, 76] (by decide +kernel) (by decide +kernel)
set_option maxRecDepth 20000 in
theorem gX8_next_X8_findAll : GoodIn wsX8_next (wsV RX8 186 RX8 yX8_findAll wsX8_findAll) := goodIn_app (goodIn_of _ (by decide +kernel)) ggX8_next_X8_findAll
set_option maxRecDepth 20000 in
theorem ggX8_next_X8_findAirBy : GoodIn wsX8_next wsX8_findAirBy := goodIn_r _ [21, 7, 22, 4, 9, 23, 29, 30, 31, 32, 33, 34, 35, 36, 37, 38, 39, 40, 41, 42, 43, 44, 45, 46, 47, 48, 49, 50, 51, 52, 53, 54, 55, 56, 57, 58, 59, 60, 61, 62, 63, 64, 65, 66, 67, 68, 69, 70, 71, 72, 73, 74, 75, 76] (by decide +kernel) (by decide +kernel)
set_option maxRecDepth 20000 in
theorem gX8_next_X8_findAirBy : GoodIn wsX8_next (wsV RX8 175 RX8 yX8_findAirBy wsX8_findAirBy) := goodIn_app (goodIn_of _ (by decide +kernel)) ggX8_next_X8_findAirBy
theorem dX8_next_0 : decode cX8_next 0 = .ok (.aload_n 0, 1) := by decide +kernel
theorem dX8_next_1 : decode cX8_next 1 = .ok (.iconst 0, 1) := by decide +kernel
theorem dX8_next_2 : decode cX8_next 2 = .ok (.putfield 95, 3) := by decide +kernel
theorem dX8_next_5 : decode cX8_next 5 = .ok (.aload_n 0, 1) := by decide +kernel
theorem dX8_next_6 : decode cX8_next 6 = .ok (.invokevirtual 186, 3) := by decide +kernel
theorem dX8_next_9 : decode cX8_next 9 = .ok (.aload_n 0, 1) := by decide +kernel
theorem dX8_next_10 : decode cX8_next 10 = .ok (.getfield 179, 3) := by decide +kernel
theorem dX8_next_13 : decode cX8_next 13 = .ok (.iconst 2, 1) := by decide +kernel
theorem dX8_next_14 : decode cX8_next 14 = .ok (.if_icmp .lt 10, 3) := by decide +kernel
theorem dX8_next_17 : decode cX8_next 17 = .ok (.aload_n 0, 1) := by decide +kernel
theorem dX8_next_18 : decode cX8_next 18 = .ok (.getfield 128, 3) := by decide +kernel
theorem dX8_next_21 : decode cX8_next 21 = .ok (.ifCond .ne 6, 3) := by decide +kernel
theorem dX8_next_24 : decode cX8_next 24 = .ok (.ldc 106, 2) := by decide +kernel
theorem dX8_next_26 : decode cX8_next 26 = .ok (.ireturn, 1) := by decide +kernel
theorem dX8_next_27 : decode cX8_next 27 = .ok (.iconst 0, 1) := by decide +kernel
theorem dX8_next_28 : decode cX8_next 28 = .ok (.istore_n 1, 1) := by decide +kernel
theorem dX8_next_29 : decode cX8_next 29 = .ok (.iload_n 1, 1) := by decide +kernel
theorem dX8_next_30 : decode cX8_next 30 = .ok (.aload_n 0, 1) := by decide +kernel
theorem dX8_next_31 : decode cX8_next 31 = .ok (.getfield 179, 3) := by decide +kernel
theorem dX8_next_34 : decode cX8_next 34 = .ok (.if_icmp .ge 58, 3) := by decide +kernel
theorem dX8_next_37 : decode cX8_next 37 = .ok (.aload_n 0, 1) := by decide +kernel
theorem dX8_next_38 : decode cX8_next 38 = .ok (.aload_n 0, 1) := by decide +kernel
theorem dX8_next_39 : decode cX8_next 39 = .ok (.getfield 65, 3) := by decide +kernel
theorem dX8_next_42 : decode cX8_next 42 = .ok (.iload_n 1, 1) := by decide +kernel
theorem dX8_next_43 : decode cX8_next 43 = .ok (.iaload, 1) := by decide +kernel
theorem dX8_next_44 : decode cX8_next 44 = .ok (.aload_n 0, 1) := by decide +kernel
theorem dX8_next_45 : decode cX8_next 45 = .ok (.getfield 68, 3) := by decide +kernel
theorem dX8_next_48 : decode cX8_next 48 = .ok (.iload_n 1, 1) := by decide +kernel
theorem dX8_next_49 : decode cX8_next 49 = .ok (.iaload, 1) := by decide +kernel
theorem dX8_next_50 : decode cX8_next 50 = .ok (.invokevirtual 175, 3) := by decide +kernel
theorem dX8_next_53 : decode cX8_next 53 = .ok (.iconst 0, 1) := by decide +kernel
theorem dX8_next_54 : decode cX8_next 54 = .ok (.istore_n 2, 1) := by decide +kernel
theorem dX8_next_55 : decode cX8_next 55 = .ok (.iload_n 2, 1) := by decide +kernel
theorem dX8_next_56 : decode cX8_next 56 = .ok (.aload_n 0, 1) := by decide +kernel
theorem dX8_next_57 : decode cX8_next 57 = .ok (.getfield 99, 3) := by decide +kernel
theorem dX8_next_60 : decode cX8_next 60 = .ok (.if_icmp .ge 26, 3) := by decide +kernel
theorem dX8_next_63 : decode cX8_next 63 = .ok (.aload_n 0, 1) := by decide +kernel
theorem dX8_next_64 : decode cX8_next 64 = .ok (.getfield 74, 3) := by decide +kernel
theorem dX8_next_67 : decode cX8_next 67 = .ok (.bipush 30, 2) := by decide +kernel
theorem dX8_next_69 : decode cX8_next 69 = .ok (.iload_n 1, 1) := by decide +kernel
theorem dX8_next_70 : decode cX8_next 70 = .ok (.imul, 1) := by decide +kernel
theorem dX8_next_71 : decode cX8_next 71 = .ok (.iload_n 2, 1) := by decide +kernel
theorem dX8_next_72 : decode cX8_next 72 = .ok (.iadd, 1) := by decide +kernel
theorem dX8_next_73 : decode cX8_next 73 = .ok (.aload_n 0, 1) := by decide +kernel
theorem dX8_next_74 : decode cX8_next 74 = .ok (.getfield 22, 3) := by decide +kernel
theorem dX8_next_77 : decode cX8_next 77 = .ok (.iload_n 2, 1) := by decide +kernel
theorem dX8_next_78 : decode cX8_next 78 = .ok (.iaload, 1) := by decide +kernel
theorem dX8_next_79 : decode cX8_next 79 = .ok (.iastore, 1) := by decide +kernel
theorem dX8_next_80 : decode cX8_next 80 = .ok (.iinc 2 1, 3) := by decide +kernel
theorem dX8_next_83 : decode cX8_next 83 = .ok (.goto (-28), 3) := by decide +kernel
theorem dX8_next_86 : decode cX8_next 86 = .ok (.iinc 1 1, 3) := by decide +kernel
theorem dX8_next_89 : decode cX8_next 89 = .ok (.goto (-60), 3) := by decide +kernel
theorem dX8_next_92 : decode cX8_next 92 = .ok (.iconst 0, 1) := by decide +kernel
theorem dX8_next_93 : decode cX8_next 93 = .ok (.istore_n 1, 1) := by decide +kernel
theorem dX8_next_94 : decode cX8_next 94 = .ok (.iconst (-1), 1) := by decide +kernel
theorem dX8_next_95 : decode cX8_next 95 = .ok (.istore_n 2, 1) := by decide +kernel
theorem dX8_next_96 : decode cX8_next 96 = .ok (.iconst 0, 1) := by decide +kernel
theorem dX8_next_97 : decode cX8_next 97 = .ok (.istore_n 3, 1) := by decide +kernel
theorem dX8_next_98 : decode cX8_next 98 = .ok (.iload_n 3, 1) := by decide +kernel
theorem dX8_next_99 : decode cX8_next 99 = .ok (.aload_n 0, 1) := by decide +kernel
theorem dX8_next_100 : decode cX8_next 100 = .ok (.getfield 128, 3) := by decide +kernel
theorem dX8_next_103 : decode cX8_next 103 = .ok (.if_icmp .ge 109, 3) := by decide +kernel
theorem dX8_next_106 : decode cX8_next 106 = .ok (.iconst 0, 1) := by decide +kernel
theorem dX8_next_107 : decode cX8_next 107 = .ok (.istore 4, 2) := by decide +kernel
theorem dX8_next_109 : decode cX8_next 109 = .ok (.iconst 0, 1) := by decide +kernel
theorem dX8_next_110 : decode cX8_next 110 = .ok (.istore 5, 2) := by decide +kernel
theorem dX8_next_112 : decode cX8_next 112 = .ok (.iload 5, 2) := by decide +kernel
theorem dX8_next_114 : decode cX8_next 114 = .ok (.aload_n 0, 1) := by decide +kernel
theorem dX8_next_115 : decode cX8_next 115 = .ok (.getfield 179, 3) := by decide +kernel
theorem dX8_next_118 : decode cX8_next 118 = .ok (.if_icmp .ge 77, 3) := by decide +kernel
theorem dX8_next_121 : decode cX8_next 121 = .ok (.iload 5, 2) := by decide +kernel
theorem dX8_next_123 : decode cX8_next 123 = .ok (.iconst 1, 1) := by decide +kernel
theorem dX8_next_124 : decode cX8_next 124 = .ok (.iadd, 1) := by decide +kernel
theorem dX8_next_125 : decode cX8_next 125 = .ok (.istore 6, 2) := by decide +kernel
theorem dX8_next_127 : decode cX8_next 127 = .ok (.iload 6, 2) := by decide +kernel
theorem dX8_next_129 : decode cX8_next 129 = .ok (.aload_n 0, 1) := by decide +kernel
theorem dX8_next_130 : decode cX8_next 130 = .ok (.getfield 179, 3) := by decide +kernel
theorem dX8_next_133 : decode cX8_next 133 = .ok (.if_icmp .ge 56, 3) := by decide +kernel
theorem dX8_next_136 : decode cX8_next 136 = .ok (.iload 4, 2) := by decide +kernel
theorem dX8_next_138 : decode cX8_next 138 = .ok (.aload_n 0, 1) := by decide +kernel
theorem dX8_next_139 : decode cX8_next 139 = .ok (.getfield 74, 3) := by decide +kernel
theorem dX8_next_142 : decode cX8_next 142 = .ok (.bipush 30, 2) := by decide +kernel
theorem dX8_next_144 : decode cX8_next 144 = .ok (.iload 5, 2) := by decide +kernel
theorem dX8_next_146 : decode cX8_next 146 = .ok (.imul, 1) := by decide +kernel
theorem dX8_next_147 : decode cX8_next 147 = .ok (.aload_n 0, 1) := by decide +kernel
theorem dX8_next_148 : decode cX8_next 148 = .ok (.getfield 25, 3) := by decide +kernel
theorem dX8_next_151 : decode cX8_next 151 = .ok (.iload_n 3, 1) := by decide +kernel
theorem dX8_next_152 : decode cX8_next 152 = .ok (.iaload, 1) := by decide +kernel
theorem dX8_next_153 : decode cX8_next 153 = .ok (.iadd, 1) := by decide +kernel
theorem dX8_next_154 : decode cX8_next 154 = .ok (.iaload, 1) := by decide +kernel
theorem dX8_next_155 : decode cX8_next 155 = .ok (.aload_n 0, 1) := by decide +kernel
theorem dX8_next_156 : decode cX8_next 156 = .ok (.getfield 74, 3) := by decide +kernel
theorem dX8_next_159 : decode cX8_next 159 = .ok (.bipush 30, 2) := by decide +kernel
theorem dX8_next_161 : decode cX8_next 161 = .ok (.iload 6, 2) := by decide +kernel
theorem dX8_next_163 : decode cX8_next 163 = .ok (.imul, 1) := by decide +kernel
theorem dX8_next_164 : decode cX8_next 164 = .ok (.aload_n 0, 1) := by decide +kernel
theorem dX8_next_165 : decode cX8_next 165 = .ok (.getfield 25, 3) := by decide +kernel
theorem dX8_next_168 : decode cX8_next 168 = .ok (.iload_n 3, 1) := by decide +kernel
theorem dX8_next_169 : decode cX8_next 169 = .ok (.iaload, 1) := by decide +kernel
theorem dX8_next_170 : decode cX8_next 170 = .ok (.iadd, 1) := by decide +kernel
theorem dX8_next_171 : decode cX8_next 171 = .ok (.iaload, 1) := by decide +kernel
theorem dX8_next_172 : decode cX8_next 172 = .ok (.if_icmp .eq 7, 3) := by decide +kernel
theorem dX8_next_175 : decode cX8_next 175 = .ok (.iconst 1, 1) := by decide +kernel
theorem dX8_next_176 : decode cX8_next 176 = .ok (.goto 4, 3) := by decide +kernel
theorem dX8_next_179 : decode cX8_next 179 = .ok (.iconst 0, 1) := by decide +kernel
theorem dX8_next_180 : decode cX8_next 180 = .ok (.iadd, 1) := by decide +kernel
theorem dX8_next_181 : decode cX8_next 181 = .ok (.istore 4, 2) := by decide +kernel
theorem dX8_next_183 : decode cX8_next 183 = .ok (.iinc 6 1, 3) := by decide +kernel
theorem dX8_next_186 : decode cX8_next 186 = .ok (.goto (-59), 3) := by decide +kernel
theorem dX8_next_189 : decode cX8_next 189 = .ok (.iinc 5 1, 3) := by decide +kernel
theorem dX8_next_192 : decode cX8_next 192 = .ok (.goto (-80), 3) := by decide +kernel
theorem dX8_next_195 : decode cX8_next 195 = .ok (.iload 4, 2) := by decide +kernel
theorem dX8_next_197 : decode cX8_next 197 = .ok (.iload_n 2, 1) := by decide +kernel
theorem dX8_next_198 : decode cX8_next 198 = .ok (.if_icmp .le 8, 3) := by decide +kernel
theorem dX8_next_201 : decode cX8_next 201 = .ok (.iload_n 3, 1) := by decide +kernel
theorem dX8_next_202 : decode cX8_next 202 = .ok (.istore_n 1, 1) := by decide +kernel
theorem dX8_next_203 : decode cX8_next 203 = .ok (.iload 4, 2) := by decide +kernel
theorem dX8_next_205 : decode cX8_next 205 = .ok (.istore_n 2, 1) := by decide +kernel
theorem dX8_next_206 : decode cX8_next 206 = .ok (.iinc 3 1, 3) := by decide +kernel
theorem dX8_next_209 : decode cX8_next 209 = .ok (.goto (-111), 3) := by decide +kernel
theorem dX8_next_212 : decode cX8_next 212 = .ok (.iload_n 1, 1) := by decide +kernel
theorem dX8_next_213 : decode cX8_next 213 = .ok (.ireturn, 1) := by decide +kernel
set_option maxRecDepth 20000 in
theorem ggX8_feed_X8_in : GoodIn wsX8_feed wsX8_in := goodIn_r _ [11] (by decide +kernel) (by decide +kernel)
set_option maxRecDepth 20000 in
theorem gX8_feed_X8_in : GoodIn wsX8_feed (va_wsS RX8 102 yX8_in wsX8_in) := goodIn_app (goodIn_of _ (by decide +kernel)) ggX8_feed_X8_in
theorem dX8_feed_0 : decode cX8_feed 0 = .ok (.aload_n 0, 1) := by decide +kernel
theorem dX8_feed_1 : decode cX8_feed 1 = .ok (.iconst 0, 1) := by decide +kernel
theorem dX8_feed_2 : decode cX8_feed 2 = .ok (.putfield 95, 3) := by decide +kernel
theorem dX8_feed_5 : decode cX8_feed 5 = .ok (.iload_n 3, 1) := by decide +kernel
theorem dX8_feed_6 : decode cX8_feed 6 = .ok (.i2l, 1) := by decide +kernel
theorem dX8_feed_7 : decode cX8_feed 7 = .ok (.lconst 1, 1) := by decide +kernel
theorem dX8_feed_8 : decode cX8_feed 8 = .ok (.ldc2_w 189, 3) := by decide +kernel
theorem dX8_feed_11 : decode cX8_feed 11 = .ok (.invokestatic 102, 3) := by decide +kernel
theorem dX8_feed_14 : decode cX8_feed 14 = .ok (.ifCond .ne 6, 3) := by decide +kernel
theorem dX8_feed_17 : decode cX8_feed 17 = .ok (.ldc 115, 2) := by decide +kernel
theorem dX8_feed_19 : decode cX8_feed 19 = .ok (.ireturn, 1) := by decide +kernel
theorem dX8_feed_20 : decode cX8_feed 20 = .ok (.aload_n 0, 1) := by decide +kernel
theorem dX8_feed_21 : decode cX8_feed 21 = .ok (.getfield 191, 3) := by decide +kernel
theorem dX8_feed_24 : decode cX8_feed 24 = .ok (.iload_n 3, 1) := by decide +kernel
theorem dX8_feed_25 : decode cX8_feed 25 = .ok (.iadd, 1) := by decide +kernel
theorem dX8_feed_26 : decode cX8_feed 26 = .ok (.sipush 300, 3) := by decide +kernel
theorem dX8_feed_29 : decode cX8_feed 29 = .ok (.if_icmp .le 6, 3) := by decide +kernel
theorem dX8_feed_32 : decode cX8_feed 32 = .ok (.ldc 116, 2) := by decide +kernel
theorem dX8_feed_34 : decode cX8_feed 34 = .ok (.ireturn, 1) := by decide +kernel
theorem dX8_feed_35 : decode cX8_feed 35 = .ok (.iload_n 3, 1) := by decide +kernel
theorem dX8_feed_36 : decode cX8_feed 36 = .ok (.iconst 1, 1) := by decide +kernel
theorem dX8_feed_37 : decode cX8_feed 37 = .ok (.isub, 1) := by decide +kernel
theorem dX8_feed_38 : decode cX8_feed 38 = .ok (.istore 4, 2) := by decide +kernel
theorem dX8_feed_40 : decode cX8_feed 40 = .ok (.iload 4, 2) := by decide +kernel
theorem dX8_feed_42 : decode cX8_feed 42 = .ok (.ifCond .lt 40, 3) := by decide +kernel
theorem dX8_feed_45 : decode cX8_feed 45 = .ok (.aload_n 0, 1) := by decide +kernel
theorem dX8_feed_46 : decode cX8_feed 46 = .ok (.getfield 77, 3) := by decide +kernel
theorem dX8_feed_49 : decode cX8_feed 49 = .ok (.aload_n 0, 1) := by decide +kernel
theorem dX8_feed_50 : decode cX8_feed 50 = .ok (.getfield 191, 3) := by decide +kernel
theorem dX8_feed_53 : decode cX8_feed 53 = .ok (.lload_n 1, 1) := by decide +kernel
theorem dX8_feed_54 : decode cX8_feed 54 = .ok (.bipush 8, 2) := by decide +kernel
theorem dX8_feed_56 : decode cX8_feed 56 = .ok (.iload 4, 2) := by decide +kernel
theorem dX8_feed_58 : decode cX8_feed 58 = .ok (.imul, 1) := by decide +kernel
theorem dX8_feed_59 : decode cX8_feed 59 = .ok (.lshr, 1) := by decide +kernel
theorem dX8_feed_60 : decode cX8_feed 60 = .ok (.ldc2_w 194, 3) := by decide +kernel
theorem dX8_feed_63 : decode cX8_feed 63 = .ok (.land, 1) := by decide +kernel
theorem dX8_feed_64 : decode cX8_feed 64 = .ok (.l2i, 1) := by decide +kernel
theorem dX8_feed_65 : decode cX8_feed 65 = .ok (.iastore, 1) := by decide +kernel
theorem dX8_feed_66 : decode cX8_feed 66 = .ok (.aload_n 0, 1) := by decide +kernel
theorem dX8_feed_67 : decode cX8_feed 67 = .ok (.dup, 1) := by decide +kernel
theorem dX8_feed_68 : decode cX8_feed 68 = .ok (.getfield 191, 3) := by decide +kernel
theorem dX8_feed_71 : decode cX8_feed 71 = .ok (.iconst 1, 1) := by decide +kernel
theorem dX8_feed_72 : decode cX8_feed 72 = .ok (.iadd, 1) := by decide +kernel
theorem dX8_feed_73 : decode cX8_feed 73 = .ok (.putfield 191, 3) := by decide +kernel
theorem dX8_feed_76 : decode cX8_feed 76 = .ok (.iinc 4 (-1), 3) := by decide +kernel
theorem dX8_feed_79 : decode cX8_feed 79 = .ok (.goto (-39), 3) := by decide +kernel
theorem dX8_feed_82 : decode cX8_feed 82 = .ok (.aload_n 0, 1) := by decide +kernel
theorem dX8_feed_83 : decode cX8_feed 83 = .ok (.getfield 191, 3) := by decide +kernel
theorem dX8_feed_86 : decode cX8_feed 86 = .ok (.ireturn, 1) := by decide +kernel
theorem dX8_byteAt_0 : decode cX8_byteAt 0 = .ok (.iload_n 1, 1) := by decide +kernel
theorem dX8_byteAt_1 : decode cX8_byteAt 1 = .ok (.aload_n 0, 1) := by decide +kernel
theorem dX8_byteAt_2 : decode cX8_byteAt 2 = .ok (.getfield 196, 3) := by decide +kernel
theorem dX8_byteAt_5 : decode cX8_byteAt 5 = .ok (.if_icmp .ge 12, 3) := by decide +kernel
theorem dX8_byteAt_8 : decode cX8_byteAt 8 = .ok (.aload_n 0, 1) := by decide +kernel
theorem dX8_byteAt_9 : decode cX8_byteAt 9 = .ok (.getfield 77, 3) := by decide +kernel
theorem dX8_byteAt_12 : decode cX8_byteAt 12 = .ok (.iload_n 1, 1) := by decide +kernel
theorem dX8_byteAt_13 : decode cX8_byteAt 13 = .ok (.iaload, 1) := by decide +kernel
theorem dX8_byteAt_14 : decode cX8_byteAt 14 = .ok (.goto 5, 3) := by decide +kernel
theorem dX8_byteAt_17 : decode cX8_byteAt 17 = .ok (.ldc 106, 2) := by decide +kernel
theorem dX8_byteAt_19 : decode cX8_byteAt 19 = .ok (.ireturn, 1) := by decide +kernel
theorem dX8_isLetter_0 : decode cX8_isLetter 0 = .ok (.iload_n 0, 1) := by decide +kernel
theorem dX8_isLetter_1 : decode cX8_isLetter 1 = .ok (.bipush 97, 2) := by decide +kernel
theorem dX8_isLetter_3 : decode cX8_isLetter 3 = .ok (.if_icmp .lt 13, 3) := by decide +kernel
theorem dX8_isLetter_6 : decode cX8_isLetter 6 = .ok (.iload_n 0, 1) := by decide +kernel
theorem dX8_isLetter_7 : decode cX8_isLetter 7 = .ok (.bipush 122, 2) := by decide +kernel
theorem dX8_isLetter_9 : decode cX8_isLetter 9 = .ok (.if_icmp .gt 7, 3) := by decide +kernel
theorem dX8_isLetter_12 : decode cX8_isLetter 12 = .ok (.iconst 1, 1) := by decide +kernel
theorem dX8_isLetter_13 : decode cX8_isLetter 13 = .ok (.goto 4, 3) := by decide +kernel
theorem dX8_isLetter_16 : decode cX8_isLetter 16 = .ok (.iconst 0, 1) := by decide +kernel
theorem dX8_isLetter_17 : decode cX8_isLetter 17 = .ok (.ireturn, 1) := by decide +kernel
theorem dX8_isFigure_0 : decode cX8_isFigure 0 = .ok (.iload_n 0, 1) := by decide +kernel
theorem dX8_isFigure_1 : decode cX8_isFigure 1 = .ok (.bipush 48, 2) := by decide +kernel
theorem dX8_isFigure_3 : decode cX8_isFigure 3 = .ok (.if_icmp .lt 13, 3) := by decide +kernel
theorem dX8_isFigure_6 : decode cX8_isFigure 6 = .ok (.iload_n 0, 1) := by decide +kernel
theorem dX8_isFigure_7 : decode cX8_isFigure 7 = .ok (.bipush 57, 2) := by decide +kernel
theorem dX8_isFigure_9 : decode cX8_isFigure 9 = .ok (.if_icmp .gt 7, 3) := by decide +kernel
theorem dX8_isFigure_12 : decode cX8_isFigure 12 = .ok (.iconst 1, 1) := by decide +kernel
theorem dX8_isFigure_13 : decode cX8_isFigure 13 = .ok (.goto 4, 3) := by decide +kernel
theorem dX8_isFigure_16 : decode cX8_isFigure 16 = .ok (.iconst 0, 1) := by decide +kernel
theorem dX8_isFigure_17 : decode cX8_isFigure 17 = .ok (.ireturn, 1) := by decide +kernel
set_option maxRecDepth 20000 in
theorem ggX8_step_X8_byteAt : GoodIn wsX8_step wsX8_byteAt := goodIn_r _ [10, 11, 12, 3, 19, 20, 21, 22, 23, 24, 25, 26, 27, 28, 29, 30, 31, 32, 33, 34, 35, 36, 37, 38, 39, 40, 41, 42, 43, 44, 45, 46, 47, 48, 49, 50, 51, 52, 53, 54, 55, 56, 57, 58, 59, 60, 61, 62, 63, 64, 65, 66] (by decide +kernel) (by decide +kernel)
set_option maxRecDepth 20000 in
theorem gX8_step_X8_byteAt : GoodIn wsX8_step (wsV RX8 201 RX8 yX8_byteAt wsX8_byteAt) := goodIn_app (goodIn_of _ (by decide +kernel)) ggX8_step_X8_byteAt
set_option maxRecDepth 20000 in
theorem ggX8_step_X8_isLetter : GoodIn wsX8_step wsX8_isLetter := goodIn_r _ [15] (by decide +kernel) (by decide +kernel)
set_option maxRecDepth 20000 in
theorem gX8_step_X8_isLetter : GoodIn wsX8_step (va_wsS RX8 210 yX8_isLetter wsX8_isLetter) := goodIn_app (goodIn_of _ (by decide +kernel)) ggX8_step_X8_isLetter
set_option maxRecDepth 20000 in
theorem ggX8_step_X8_isFigure : GoodIn wsX8_step wsX8_isFigure := goodIn_r _ [18] (by decide +kernel) (by decide +kernel)
set_option maxRecDepth 20000 in
theorem gX8_step_X8_isFigure : GoodIn wsX8_step (va_wsS RX8 213 yX8_isFigure wsX8_isFigure) := goodIn_app (goodIn_of _ (by decide +kernel)) ggX8_step_X8_isFigure
theorem dX8_step_0 : decode cX8_step 0 = .ok (.aload_n 0, 1) := by decide +kernel
theorem dX8_step_1 : decode cX8_step 1 = .ok (.aload_n 0, 1) := by decide +kernel
theorem dX8_step_2 : decode cX8_step 2 = .ok (.getfield 198, 3) := by decide +kernel
theorem dX8_step_5 : decode cX8_step 5 = .ok (.invokevirtual 201, 3) := by decide +kernel
theorem dX8_step_8 : decode cX8_step 8 = .ok (.bipush 32, 2) := by decide +kernel
theorem dX8_step_10 : decode cX8_step 10 = .ok (.if_icmp .eq 16, 3) := by decide +kernel
theorem dX8_step_13 : decode cX8_step 13 = .ok (.aload_n 0, 1) := by decide +kernel
theorem dX8_step_14 : decode cX8_step 14 = .ok (.aload_n 0, 1) := by decide +kernel
theorem dX8_step_15 : decode cX8_step 15 = .ok (.getfield 198, 3) := by decide +kernel
theorem dX8_step_18 : decode cX8_step 18 = .ok (.invokevirtual 201, 3) := by decide +kernel
theorem dX8_step_21 : decode cX8_step 21 = .ok (.bipush 10, 2) := by decide +kernel
theorem dX8_step_23 : decode cX8_step 23 = .ok (.if_icmp .ne 16, 3) := by decide +kernel
theorem dX8_step_26 : decode cX8_step 26 = .ok (.aload_n 0, 1) := by decide +kernel
theorem dX8_step_27 : decode cX8_step 27 = .ok (.dup, 1) := by decide +kernel
theorem dX8_step_28 : decode cX8_step 28 = .ok (.getfield 198, 3) := by decide +kernel
theorem dX8_step_31 : decode cX8_step 31 = .ok (.iconst 1, 1) := by decide +kernel
theorem dX8_step_32 : decode cX8_step 32 = .ok (.iadd, 1) := by decide +kernel
theorem dX8_step_33 : decode cX8_step 33 = .ok (.putfield 198, 3) := by decide +kernel
theorem dX8_step_36 : decode cX8_step 36 = .ok (.goto (-36), 3) := by decide +kernel
theorem dX8_step_39 : decode cX8_step 39 = .ok (.aload_n 0, 1) := by decide +kernel
theorem dX8_step_40 : decode cX8_step 40 = .ok (.aload_n 0, 1) := by decide +kernel
theorem dX8_step_41 : decode cX8_step 41 = .ok (.getfield 198, 3) := by decide +kernel
theorem dX8_step_44 : decode cX8_step 44 = .ok (.putfield 204, 3) := by decide +kernel
theorem dX8_step_47 : decode cX8_step 47 = .ok (.aload_n 0, 1) := by decide +kernel
theorem dX8_step_48 : decode cX8_step 48 = .ok (.aload_n 0, 1) := by decide +kernel
theorem dX8_step_49 : decode cX8_step 49 = .ok (.getfield 198, 3) := by decide +kernel
theorem dX8_step_52 : decode cX8_step 52 = .ok (.invokevirtual 201, 3) := by decide +kernel
theorem dX8_step_55 : decode cX8_step 55 = .ok (.istore_n 1, 1) := by decide +kernel
theorem dX8_step_56 : decode cX8_step 56 = .ok (.iload_n 1, 1) := by decide +kernel
theorem dX8_step_57 : decode cX8_step 57 = .ok (.ldc 106, 2) := by decide +kernel
theorem dX8_step_59 : decode cX8_step 59 = .ok (.if_icmp .ne 11, 3) := by decide +kernel
theorem dX8_step_62 : decode cX8_step 62 = .ok (.aload_n 0, 1) := by decide +kernel
theorem dX8_step_63 : decode cX8_step 63 = .ok (.iconst 1, 1) := by decide +kernel
theorem dX8_step_64 : decode cX8_step 64 = .ok (.putfield 207, 3) := by decide +kernel
theorem dX8_step_67 : decode cX8_step 67 = .ok (.goto 153, 3) := by decide +kernel
theorem dX8_step_70 : decode cX8_step 70 = .ok (.iload_n 1, 1) := by decide +kernel
theorem dX8_step_71 : decode cX8_step 71 = .ok (.invokestatic 210, 3) := by decide +kernel
theorem dX8_step_74 : decode cX8_step 74 = .ok (.ifCond .eq 56, 3) := by decide +kernel
theorem dX8_step_77 : decode cX8_step 77 = .ok (.aload_n 0, 1) := by decide +kernel
theorem dX8_step_78 : decode cX8_step 78 = .ok (.aload_n 0, 1) := by decide +kernel
theorem dX8_step_79 : decode cX8_step 79 = .ok (.getfield 198, 3) := by decide +kernel
theorem dX8_step_82 : decode cX8_step 82 = .ok (.invokevirtual 201, 3) := by decide +kernel
theorem dX8_step_85 : decode cX8_step 85 = .ok (.invokestatic 210, 3) := by decide +kernel
theorem dX8_step_88 : decode cX8_step 88 = .ok (.ifCond .eq 16, 3) := by decide +kernel
theorem dX8_step_91 : decode cX8_step 91 = .ok (.aload_n 0, 1) := by decide +kernel
theorem dX8_step_92 : decode cX8_step 92 = .ok (.dup, 1) := by decide +kernel
theorem dX8_step_93 : decode cX8_step 93 = .ok (.getfield 198, 3) := by decide +kernel
theorem dX8_step_96 : decode cX8_step 96 = .ok (.iconst 1, 1) := by decide +kernel
theorem dX8_step_97 : decode cX8_step 97 = .ok (.iadd, 1) := by decide +kernel
theorem dX8_step_98 : decode cX8_step 98 = .ok (.putfield 198, 3) := by decide +kernel
theorem dX8_step_101 : decode cX8_step 101 = .ok (.goto (-24), 3) := by decide +kernel
theorem dX8_step_104 : decode cX8_step 104 = .ok (.aload_n 0, 1) := by decide +kernel
theorem dX8_step_105 : decode cX8_step 105 = .ok (.aload_n 0, 1) := by decide +kernel
theorem dX8_step_106 : decode cX8_step 106 = .ok (.getfield 198, 3) := by decide +kernel
theorem dX8_step_109 : decode cX8_step 109 = .ok (.aload_n 0, 1) := by decide +kernel
theorem dX8_step_110 : decode cX8_step 110 = .ok (.getfield 204, 3) := by decide +kernel
theorem dX8_step_113 : decode cX8_step 113 = .ok (.isub, 1) := by decide +kernel
theorem dX8_step_114 : decode cX8_step 114 = .ok (.bipush 6, 2) := by decide +kernel
theorem dX8_step_116 : decode cX8_step 116 = .ok (.if_icmp .le 7, 3) := by decide +kernel
theorem dX8_step_119 : decode cX8_step 119 = .ok (.iconst 0, 1) := by decide +kernel
theorem dX8_step_120 : decode cX8_step 120 = .ok (.goto 4, 3) := by decide +kernel
theorem dX8_step_123 : decode cX8_step 123 = .ok (.iconst 2, 1) := by decide +kernel
theorem dX8_step_124 : decode cX8_step 124 = .ok (.putfield 207, 3) := by decide +kernel
theorem dX8_step_127 : decode cX8_step 127 = .ok (.goto 93, 3) := by decide +kernel
theorem dX8_step_130 : decode cX8_step 130 = .ok (.iload_n 1, 1) := by decide +kernel
theorem dX8_step_131 : decode cX8_step 131 = .ok (.invokestatic 213, 3) := by decide +kernel
theorem dX8_step_134 : decode cX8_step 134 = .ok (.ifCond .eq 55, 3) := by decide +kernel
theorem dX8_step_137 : decode cX8_step 137 = .ok (.aload_n 0, 1) := by decide +kernel
theorem dX8_step_138 : decode cX8_step 138 = .ok (.aload_n 0, 1) := by decide +kernel
theorem dX8_step_139 : decode cX8_step 139 = .ok (.getfield 198, 3) := by decide +kernel
theorem dX8_step_142 : decode cX8_step 142 = .ok (.invokevirtual 201, 3) := by decide +kernel
theorem dX8_step_145 : decode cX8_step 145 = .ok (.invokestatic 213, 3) := by decide +kernel
theorem dX8_step_148 : decode cX8_step 148 = .ok (.ifCond .eq 16, 3) := by decide +kernel
theorem dX8_step_151 : decode cX8_step 151 = .ok (.aload_n 0, 1) := by decide +kernel
theorem dX8_step_152 : decode cX8_step 152 = .ok (.dup, 1) := by decide +kernel
theorem dX8_step_153 : decode cX8_step 153 = .ok (.getfield 198, 3) := by decide +kernel
theorem dX8_step_156 : decode cX8_step 156 = .ok (.iconst 1, 1) := by decide +kernel
theorem dX8_step_157 : decode cX8_step 157 = .ok (.iadd, 1) := by decide +kernel
theorem dX8_step_158 : decode cX8_step 158 = .ok (.putfield 198, 3) := by decide +kernel
theorem dX8_step_161 : decode cX8_step 161 = .ok (.goto (-24), 3) := by decide +kernel
theorem dX8_step_164 : decode cX8_step 164 = .ok (.aload_n 0, 1) := by decide +kernel
theorem dX8_step_165 : decode cX8_step 165 = .ok (.aload_n 0, 1) := by decide +kernel
theorem dX8_step_166 : decode cX8_step 166 = .ok (.getfield 198, 3) := by decide +kernel
theorem dX8_step_169 : decode cX8_step 169 = .ok (.aload_n 0, 1) := by decide +kernel
theorem dX8_step_170 : decode cX8_step 170 = .ok (.getfield 204, 3) := by decide +kernel
theorem dX8_step_173 : decode cX8_step 173 = .ok (.isub, 1) := by decide +kernel
theorem dX8_step_174 : decode cX8_step 174 = .ok (.iconst 4, 1) := by decide +kernel
theorem dX8_step_175 : decode cX8_step 175 = .ok (.if_icmp .le 7, 3) := by decide +kernel
