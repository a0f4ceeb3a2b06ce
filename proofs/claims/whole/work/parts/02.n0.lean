theorem dX0_init_0 : decode cX0_init 0 = .ok (.aload_n 0, 1) := by decide +kernel
theorem dX0_init_1 : decode cX0_init 1 = .ok (.invokespecial 3, 3) := by decide +kernel
theorem dX0_init_4 : decode cX0_init 4 = .ok (.aload_n 0, 1) := by decide +kernel
theorem dX0_init_5 : decode cX0_init 5 = .ok (.aload_n 1, 1) := by decide +kernel
theorem dX0_init_6 : decode cX0_init 6 = .ok (.putfield 9, 3) := by decide +kernel
theorem dX0_init_9 : decode cX0_init 9 = .ok (.aload_n 0, 1) := by decide +kernel
theorem dX0_init_10 : decode cX0_init 10 = .ok (.iload_n 2, 1) := by decide +kernel
theorem dX0_init_11 : decode cX0_init 11 = .ok (.putfield 15, 3) := by decide +kernel
theorem dX0_init_14 : decode cX0_init 14 = .ok (.aload_n 0, 1) := by decide +kernel
theorem dX0_init_15 : decode cX0_init 15 = .ok (.iload_n 3, 1) := by decide +kernel
theorem dX0_init_16 : decode cX0_init 16 = .ok (.putfield 19, 3) := by decide +kernel
theorem dX0_init_19 : decode cX0_init 19 = .ok (.return_, 1) := by decide +kernel
set_option maxRecDepth 20000 in
theorem ggX0_takePuff_X3_air : GoodIn wsX0_takePuff wsX3_air := goodIn_r _ [12, 13, 14, 15, 16, 17, 11, 18, 19, 20, 21, 22, 23, 43, 44, 45, 46, 47, 48] (by decide +kernel) (by decide +kernel)
set_option maxRecDepth 20000 in
theorem gX0_takePuff_X3_air : GoodIn wsX0_takePuff (wsV RX0 22 RX3 yX3_air wsX3_air) := goodIn_app (goodIn_of _ (by decide +kernel)) ggX0_takePuff_X3_air
set_option maxRecDepth 20000 in
theorem ggX0_takePuff_X0_isPaidFor : GoodIn wsX0_takePuff wsX0_isPaidFor := goodIn_r _ [28, 29, 5, 30, 31, 32, 33, 34, 35, 36, 37, 38, 39, 40, 41, 42] (by decide +kernel) (by decide +kernel)
set_option maxRecDepth 20000 in
theorem gX0_takePuff_X0_isPaidFor : GoodIn wsX0_takePuff (wsV RX0 37 RX0 yX0_isPaidFor wsX0_isPaidFor) := goodIn_app (goodIn_of _ (by decide +kernel)) ggX0_takePuff_X0_isPaidFor
theorem dX0_takePuff_0 : decode cX0_takePuff 0 = .ok (.aload_n 0, 1) := by decide +kernel
theorem dX0_takePuff_1 : decode cX0_takePuff 1 = .ok (.getfield 9, 3) := by decide +kernel
theorem dX0_takePuff_4 : decode cX0_takePuff 4 = .ok (.invokevirtual 22, 3) := by decide +kernel
theorem dX0_takePuff_7 : decode cX0_takePuff 7 = .ok (.aload_n 0, 1) := by decide +kernel
theorem dX0_takePuff_8 : decode cX0_takePuff 8 = .ok (.getfield 15, 3) := by decide +kernel
theorem dX0_takePuff_11 : decode cX0_takePuff 11 = .ok (.if_icmp .lt 7, 3) := by decide +kernel
theorem dX0_takePuff_14 : decode cX0_takePuff 14 = .ok (.iconst 1, 1) := by decide +kernel
theorem dX0_takePuff_15 : decode cX0_takePuff 15 = .ok (.goto 4, 3) := by decide +kernel
theorem dX0_takePuff_18 : decode cX0_takePuff 18 = .ok (.iconst 0, 1) := by decide +kernel
theorem dX0_takePuff_19 : decode cX0_takePuff 19 = .ok (.istore_n 1, 1) := by decide +kernel
theorem dX0_takePuff_20 : decode cX0_takePuff 20 = .ok (.aload_n 0, 1) := by decide +kernel
theorem dX0_takePuff_21 : decode cX0_takePuff 21 = .ok (.dup, 1) := by decide +kernel
theorem dX0_takePuff_22 : decode cX0_takePuff 22 = .ok (.getfield 28, 3) := by decide +kernel
theorem dX0_takePuff_25 : decode cX0_takePuff 25 = .ok (.iconst 1, 1) := by decide +kernel
theorem dX0_takePuff_26 : decode cX0_takePuff 26 = .ok (.iadd, 1) := by decide +kernel
theorem dX0_takePuff_27 : decode cX0_takePuff 27 = .ok (.putfield 28, 3) := by decide +kernel
theorem dX0_takePuff_30 : decode cX0_takePuff 30 = .ok (.iload_n 1, 1) := by decide +kernel
theorem dX0_takePuff_31 : decode cX0_takePuff 31 = .ok (.ifCond .eq 11, 3) := by decide +kernel
theorem dX0_takePuff_34 : decode cX0_takePuff 34 = .ok (.aload_n 0, 1) := by decide +kernel
theorem dX0_takePuff_35 : decode cX0_takePuff 35 = .ok (.iconst 0, 1) := by decide +kernel
theorem dX0_takePuff_36 : decode cX0_takePuff 36 = .ok (.putfield 31, 3) := by decide +kernel
theorem dX0_takePuff_39 : decode cX0_takePuff 39 = .ok (.goto 23, 3) := by decide +kernel
theorem dX0_takePuff_42 : decode cX0_takePuff 42 = .ok (.aload_n 0, 1) := by decide +kernel
theorem dX0_takePuff_43 : decode cX0_takePuff 43 = .ok (.dup, 1) := by decide +kernel
theorem dX0_takePuff_44 : decode cX0_takePuff 44 = .ok (.getfield 34, 3) := by decide +kernel
theorem dX0_takePuff_47 : decode cX0_takePuff 47 = .ok (.iconst 1, 1) := by decide +kernel
theorem dX0_takePuff_48 : decode cX0_takePuff 48 = .ok (.iadd, 1) := by decide +kernel
theorem dX0_takePuff_49 : decode cX0_takePuff 49 = .ok (.putfield 34, 3) := by decide +kernel
theorem dX0_takePuff_52 : decode cX0_takePuff 52 = .ok (.aload_n 0, 1) := by decide +kernel
theorem dX0_takePuff_53 : decode cX0_takePuff 53 = .ok (.dup, 1) := by decide +kernel
theorem dX0_takePuff_54 : decode cX0_takePuff 54 = .ok (.getfield 31, 3) := by decide +kernel
theorem dX0_takePuff_57 : decode cX0_takePuff 57 = .ok (.iconst 1, 1) := by decide +kernel
theorem dX0_takePuff_58 : decode cX0_takePuff 58 = .ok (.iadd, 1) := by decide +kernel
theorem dX0_takePuff_59 : decode cX0_takePuff 59 = .ok (.putfield 31, 3) := by decide +kernel
theorem dX0_takePuff_62 : decode cX0_takePuff 62 = .ok (.aload_n 0, 1) := by decide +kernel
theorem dX0_takePuff_63 : decode cX0_takePuff 63 = .ok (.iload_n 1, 1) := by decide +kernel
theorem dX0_takePuff_64 : decode cX0_takePuff 64 = .ok (.invokevirtual 37, 3) := by decide +kernel
theorem dX0_takePuff_67 : decode cX0_takePuff 67 = .ok (.ifCond .eq 16, 3) := by decide +kernel
theorem dX0_takePuff_70 : decode cX0_takePuff 70 = .ok (.aload_n 0, 1) := by decide +kernel
theorem dX0_takePuff_71 : decode cX0_takePuff 71 = .ok (.dup, 1) := by decide +kernel
theorem dX0_takePuff_72 : decode cX0_takePuff 72 = .ok (.getfield 41, 3) := by decide +kernel
theorem dX0_takePuff_75 : decode cX0_takePuff 75 = .ok (.aload_n 0, 1) := by decide +kernel
theorem dX0_takePuff_76 : decode cX0_takePuff 76 = .ok (.getfield 44, 3) := by decide +kernel
theorem dX0_takePuff_79 : decode cX0_takePuff 79 = .ok (.iadd, 1) := by decide +kernel
theorem dX0_takePuff_80 : decode cX0_takePuff 80 = .ok (.putfield 41, 3) := by decide +kernel
theorem dX0_takePuff_83 : decode cX0_takePuff 83 = .ok (.iload_n 1, 1) := by decide +kernel
theorem dX0_takePuff_84 : decode cX0_takePuff 84 = .ok (.ireturn, 1) := by decide +kernel
theorem dX0_isPaidFor_0 : decode cX0_isPaidFor 0 = .ok (.aload_n 0, 1) := by decide +kernel
theorem dX0_isPaidFor_1 : decode cX0_isPaidFor 1 = .ok (.getfield 47, 3) := by decide +kernel
theorem dX0_isPaidFor_4 : decode cX0_isPaidFor 4 = .ok (.tableswitch 49 1 3 #[28, 30, 32], 28) := by decide +kernel
theorem dX0_isPaidFor_32 : decode cX0_isPaidFor 32 = .ok (.iconst 1, 1) := by decide +kernel
theorem dX0_isPaidFor_33 : decode cX0_isPaidFor 33 = .ok (.ireturn, 1) := by decide +kernel
theorem dX0_isPaidFor_34 : decode cX0_isPaidFor 34 = .ok (.iload_n 1, 1) := by decide +kernel
theorem dX0_isPaidFor_35 : decode cX0_isPaidFor 35 = .ok (.ireturn, 1) := by decide +kernel
theorem dX0_isPaidFor_36 : decode cX0_isPaidFor 36 = .ok (.aload_n 0, 1) := by decide +kernel
theorem dX0_isPaidFor_37 : decode cX0_isPaidFor 37 = .ok (.getfield 34, 3) := by decide +kernel
theorem dX0_isPaidFor_40 : decode cX0_isPaidFor 40 = .ok (.aload_n 0, 1) := by decide +kernel
theorem dX0_isPaidFor_41 : decode cX0_isPaidFor 41 = .ok (.getfield 50, 3) := by decide +kernel
theorem dX0_isPaidFor_44 : decode cX0_isPaidFor 44 = .ok (.if_icmp .ge 7, 3) := by decide +kernel
theorem dX0_isPaidFor_47 : decode cX0_isPaidFor 47 = .ok (.iconst 1, 1) := by decide +kernel
theorem dX0_isPaidFor_48 : decode cX0_isPaidFor 48 = .ok (.goto 4, 3) := by decide +kernel
theorem dX0_isPaidFor_51 : decode cX0_isPaidFor 51 = .ok (.iconst 0, 1) := by decide +kernel
theorem dX0_isPaidFor_52 : decode cX0_isPaidFor 52 = .ok (.ireturn, 1) := by decide +kernel
theorem dX0_isPaidFor_53 : decode cX0_isPaidFor 53 = .ok (.iconst 0, 1) := by decide +kernel
theorem dX0_isPaidFor_54 : decode cX0_isPaidFor 54 = .ok (.ireturn, 1) := by decide +kernel
theorem dX0_becomeKnown_0 : decode cX0_becomeKnown 0 = .ok (.aload_n 0, 1) := by decide +kernel
theorem dX0_becomeKnown_1 : decode cX0_becomeKnown 1 = .ok (.aload_n 0, 1) := by decide +kernel
theorem dX0_becomeKnown_2 : decode cX0_becomeKnown 2 = .ok (.getfield 34, 3) := by decide +kernel
theorem dX0_becomeKnown_5 : decode cX0_becomeKnown 5 = .ok (.putfield 53, 3) := by decide +kernel
theorem dX0_becomeKnown_8 : decode cX0_becomeKnown 8 = .ok (.aload_n 0, 1) := by decide +kernel
theorem dX0_becomeKnown_9 : decode cX0_becomeKnown 9 = .ok (.iconst 0, 1) := by decide +kernel
theorem dX0_becomeKnown_10 : decode cX0_becomeKnown 10 = .ok (.putfield 28, 3) := by decide +kernel
theorem dX0_becomeKnown_13 : decode cX0_becomeKnown 13 = .ok (.return_, 1) := by decide +kernel
theorem dX0_putOn_0 : decode cX0_putOn 0 = .ok (.aload_n 0, 1) := by decide +kernel
theorem dX0_putOn_1 : decode cX0_putOn 1 = .ok (.dup, 1) := by decide +kernel
theorem dX0_putOn_2 : decode cX0_putOn 2 = .ok (.getfield 34, 3) := by decide +kernel
theorem dX0_putOn_5 : decode cX0_putOn 5 = .ok (.iload_n 1, 1) := by decide +kernel
theorem dX0_putOn_6 : decode cX0_putOn 6 = .ok (.isub, 1) := by decide +kernel
theorem dX0_putOn_7 : decode cX0_putOn 7 = .ok (.putfield 34, 3) := by decide +kernel
theorem dX0_putOn_10 : decode cX0_putOn 10 = .ok (.aload_n 0, 1) := by decide +kernel
theorem dX0_putOn_11 : decode cX0_putOn 11 = .ok (.dup, 1) := by decide +kernel
theorem dX0_putOn_12 : decode cX0_putOn 12 = .ok (.getfield 53, 3) := by decide +kernel
theorem dX0_putOn_15 : decode cX0_putOn 15 = .ok (.iload_n 1, 1) := by decide +kernel
theorem dX0_putOn_16 : decode cX0_putOn 16 = .ok (.isub, 1) := by decide +kernel
theorem dX0_putOn_17 : decode cX0_putOn 17 = .ok (.putfield 53, 3) := by decide +kernel
theorem dX0_putOn_20 : decode cX0_putOn 20 = .ok (.return_, 1) := by decide +kernel
set_option maxRecDepth 20000 in
theorem ggX0_putRight_X0_becomeKnown : GoodIn wsX0_putRight wsX0_becomeKnown := goodIn_r _ [7, 1, 8, 9, 10, 11, 12, 13, 14, 15, 16, 17, 18, 19, 20, 21] (by decide +kernel) (by decide +kernel)
set_option maxRecDepth 20000 in
theorem gX0_putRight_X0_becomeKnown : GoodIn wsX0_putRight (wsV RX0 56 RX0 yX0_becomeKnown wsX0_becomeKnown) := goodIn_app (goodIn_of _ (by decide +kernel)) ggX0_putRight_X0_becomeKnown
theorem dX0_putRight_0 : decode cX0_putRight 0 = .ok (.aload_n 0, 1) := by decide +kernel
theorem dX0_putRight_1 : decode cX0_putRight 1 = .ok (.iconst 0, 1) := by decide +kernel
theorem dX0_putRight_2 : decode cX0_putRight 2 = .ok (.putfield 34, 3) := by decide +kernel
theorem dX0_putRight_5 : decode cX0_putRight 5 = .ok (.aload_n 0, 1) := by decide +kernel
theorem dX0_putRight_6 : decode cX0_putRight 6 = .ok (.iconst 0, 1) := by decide +kernel
theorem dX0_putRight_7 : decode cX0_putRight 7 = .ok (.putfield 31, 3) := by decide +kernel
theorem dX0_putRight_10 : decode cX0_putRight 10 = .ok (.aload_n 0, 1) := by decide +kernel
theorem dX0_putRight_11 : decode cX0_putRight 11 = .ok (.invokevirtual 56, 3) := by decide +kernel
theorem dX0_putRight_14 : decode cX0_putRight 14 = .ok (.return_, 1) := by decide +kernel
theorem dX0_toldKind_0 : decode cX0_toldKind 0 = .ok (.aload_n 0, 1) := by decide +kernel
theorem dX0_toldKind_1 : decode cX0_toldKind 1 = .ok (.getfield 31, 3) := by decide +kernel
theorem dX0_toldKind_4 : decode cX0_toldKind 4 = .ok (.bipush 10, 2) := by decide +kernel
theorem dX0_toldKind_6 : decode cX0_toldKind 6 = .ok (.if_icmp .lt 7, 3) := by decide +kernel
theorem dX0_toldKind_9 : decode cX0_toldKind 9 = .ok (.iconst 3, 1) := by decide +kernel
theorem dX0_toldKind_10 : decode cX0_toldKind 10 = .ok (.goto 7, 3) := by decide +kernel
theorem dX0_toldKind_13 : decode cX0_toldKind 13 = .ok (.aload_n 0, 1) := by decide +kernel
theorem dX0_toldKind_14 : decode cX0_toldKind 14 = .ok (.getfield 19, 3) := by decide +kernel
theorem dX0_toldKind_17 : decode cX0_toldKind 17 = .ok (.ireturn, 1) := by decide +kernel
theorem dX0_begin_0 : decode cX0_begin 0 = .ok (.aload_n 0, 1) := by decide +kernel
theorem dX0_begin_1 : decode cX0_begin 1 = .ok (.iload_n 1, 1) := by decide +kernel
theorem dX0_begin_2 : decode cX0_begin 2 = .ok (.putfield 47, 3) := by decide +kernel
theorem dX0_begin_5 : decode cX0_begin 5 = .ok (.aload_n 0, 1) := by decide +kernel
theorem dX0_begin_6 : decode cX0_begin 6 = .ok (.iload_n 2, 1) := by decide +kernel
theorem dX0_begin_7 : decode cX0_begin 7 = .ok (.putfield 50, 3) := by decide +kernel
theorem dX0_begin_10 : decode cX0_begin 10 = .ok (.aload_n 0, 1) := by decide +kernel
theorem dX0_begin_11 : decode cX0_begin 11 = .ok (.iload_n 3, 1) := by decide +kernel
theorem dX0_begin_12 : decode cX0_begin 12 = .ok (.putfield 44, 3) := by decide +kernel
theorem dX0_begin_15 : decode cX0_begin 15 = .ok (.aload_n 0, 1) := by decide +kernel
theorem dX0_begin_16 : decode cX0_begin 16 = .ok (.iconst 0, 1) := by decide +kernel
theorem dX0_begin_17 : decode cX0_begin 17 = .ok (.putfield 41, 3) := by decide +kernel
theorem dX0_begin_20 : decode cX0_begin 20 = .ok (.return_, 1) := by decide +kernel
theorem dX1_init_0 : decode cX1_init 0 = .ok (.aload_n 0, 1) := by decide +kernel
theorem dX1_init_1 : decode cX1_init 1 = .ok (.invokespecial 3, 3) := by decide +kernel
theorem dX1_init_4 : decode cX1_init 4 = .ok (.aload_n 0, 1) := by decide +kernel
theorem dX1_init_5 : decode cX1_init 5 = .ok (.bipush 30, 2) := by decide +kernel
theorem dX1_init_7 : decode cX1_init 7 = .ok (.newarray .int, 2) := by decide +kernel
theorem dX1_init_9 : decode cX1_init 9 = .ok (.putfield 9, 3) := by decide +kernel
theorem dX1_init_12 : decode cX1_init 12 = .ok (.aload_n 0, 1) := by decide +kernel
theorem dX1_init_13 : decode cX1_init 13 = .ok (.bipush 30, 2) := by decide +kernel
theorem dX1_init_15 : decode cX1_init 15 = .ok (.newarray .int, 2) := by decide +kernel
theorem dX1_init_17 : decode cX1_init 17 = .ok (.putfield 15, 3) := by decide +kernel
theorem dX1_init_20 : decode cX1_init 20 = .ok (.aload_n 0, 1) := by decide +kernel
theorem dX1_init_21 : decode cX1_init 21 = .ok (.bipush 101, 2) := by decide +kernel
theorem dX1_init_23 : decode cX1_init 23 = .ok (.newarray .int, 2) := by decide +kernel
theorem dX1_init_25 : decode cX1_init 25 = .ok (.putfield 18, 3) := by decide +kernel
theorem dX1_init_28 : decode cX1_init 28 = .ok (.return_, 1) := by decide +kernel
set_option maxRecDepth 20000 in
theorem ggX1_find_Jx4a65c_size_8abf5 : GoodIn wsX1_find wsJx4a65c_size_8abf5 := goodIn_r _ [9, 10, 59, 60, 61] (by decide +kernel) (by decide +kernel)
set_option maxRecDepth 20000 in
theorem gX1_find_Jx4a65c_size_8abf5 : GoodIn wsX1_find (wsV RX1 25 RJx4a65c yJx4a65c_size_8abf5 wsJx4a65c_size_8abf5) := goodIn_app (goodIn_of _ (by decide +kernel)) ggX1_find_Jx4a65c_size_8abf5
set_option maxRecDepth 20000 in
theorem ggX1_find_X1_leastLeakAt : GoodIn wsX1_find wsX1_leastLeakAt := goodIn_r _ [14, 15, 16, 17, 18, 2, 19, 20, 21, 22, 23, 24, 25, 5, 6, 7, 8, 9, 10, 26, 27, 28, 29, 30, 31, 32, 33, 34, 35, 36, 37, 38, 39, 40, 41, 42, 43, 44, 45, 46, 47, 48, 49, 50, 51, 52, 53, 54, 62, 63, 64, 65, 66, 67, 68, 69, 70, 71, 72, 73, 59, 60, 61, 74, 75, 76, 77, 78, 79] (by decide +kernel) (by decide +kernel)
set_option maxRecDepth 20000 in
theorem gX1_find_X1_leastLeakAt : GoodIn wsX1_find (va_wsS RX1 31 yX1_leastLeakAt wsX1_leastLeakAt) := goodIn_app (goodIn_of _ (by decide +kernel)) ggX1_find_X1_leastLeakAt
theorem dX1_find_0 : decode cX1_find 0 = .ok (.aload_n 0, 1) := by decide +kernel
theorem dX1_find_1 : decode cX1_find 1 = .ok (.iconst 0, 1) := by decide +kernel
theorem dX1_find_2 : decode cX1_find 2 = .ok (.putfield 21, 3) := by decide +kernel
theorem dX1_find_5 : decode cX1_find 5 = .ok (.iconst 0, 1) := by decide +kernel
theorem dX1_find_6 : decode cX1_find 6 = .ok (.istore_n 3, 1) := by decide +kernel
theorem dX1_find_7 : decode cX1_find 7 = .ok (.iload_n 3, 1) := by decide +kernel
theorem dX1_find_8 : decode cX1_find 8 = .ok (.aload_n 1, 1) := by decide +kernel
theorem dX1_find_9 : decode cX1_find 9 = .ok (.invokevirtual 25, 3) := by decide +kernel
theorem dX1_find_12 : decode cX1_find 12 = .ok (.if_icmp .ge 60, 3) := by decide +kernel
theorem dX1_find_15 : decode cX1_find 15 = .ok (.iload_n 3, 1) := by decide +kernel
theorem dX1_find_16 : decode cX1_find 16 = .ok (.bipush 30, 2) := by decide +kernel
theorem dX1_find_18 : decode cX1_find 18 = .ok (.if_icmp .ge 54, 3) := by decide +kernel
theorem dX1_find_21 : decode cX1_find 21 = .ok (.iload_n 3, 1) := by decide +kernel
theorem dX1_find_22 : decode cX1_find 22 = .ok (.aload_n 2, 1) := by decide +kernel
theorem dX1_find_23 : decode cX1_find 23 = .ok (.invokestatic 31, 3) := by decide +kernel
theorem dX1_find_26 : decode cX1_find 26 = .ok (.istore 4, 2) := by decide +kernel
theorem dX1_find_28 : decode cX1_find 28 = .ok (.iload 4, 2) := by decide +kernel
theorem dX1_find_30 : decode cX1_find 30 = .ok (.ldc 35, 2) := by decide +kernel
theorem dX1_find_32 : decode cX1_find 32 = .ok (.if_icmp .eq 34, 3) := by decide +kernel
theorem dX1_find_35 : decode cX1_find 35 = .ok (.aload_n 0, 1) := by decide +kernel
theorem dX1_find_36 : decode cX1_find 36 = .ok (.getfield 9, 3) := by decide +kernel
theorem dX1_find_39 : decode cX1_find 39 = .ok (.aload_n 0, 1) := by decide +kernel
theorem dX1_find_40 : decode cX1_find 40 = .ok (.getfield 21, 3) := by decide +kernel
theorem dX1_find_43 : decode cX1_find 43 = .ok (.iload_n 3, 1) := by decide +kernel
theorem dX1_find_44 : decode cX1_find 44 = .ok (.iastore, 1) := by decide +kernel
theorem dX1_find_45 : decode cX1_find 45 = .ok (.aload_n 0, 1) := by decide +kernel
theorem dX1_find_46 : decode cX1_find 46 = .ok (.getfield 15, 3) := by decide +kernel
theorem dX1_find_49 : decode cX1_find 49 = .ok (.aload_n 0, 1) := by decide +kernel
theorem dX1_find_50 : decode cX1_find 50 = .ok (.getfield 21, 3) := by decide +kernel
theorem dX1_find_53 : decode cX1_find 53 = .ok (.iload 4, 2) := by decide +kernel
theorem dX1_find_55 : decode cX1_find 55 = .ok (.iastore, 1) := by decide +kernel
theorem dX1_find_56 : decode cX1_find 56 = .ok (.aload_n 0, 1) := by decide +kernel
theorem dX1_find_57 : decode cX1_find 57 = .ok (.dup, 1) := by decide +kernel
theorem dX1_find_58 : decode cX1_find 58 = .ok (.getfield 21, 3) := by decide +kernel
theorem dX1_find_61 : decode cX1_find 61 = .ok (.iconst 1, 1) := by decide +kernel
theorem dX1_find_62 : decode cX1_find 62 = .ok (.iadd, 1) := by decide +kernel
theorem dX1_find_63 : decode cX1_find 63 = .ok (.putfield 21, 3) := by decide +kernel
theorem dX1_find_66 : decode cX1_find 66 = .ok (.iinc 3 1, 3) := by decide +kernel
theorem dX1_find_69 : decode cX1_find 69 = .ok (.goto (-62), 3) := by decide +kernel
theorem dX1_find_72 : decode cX1_find 72 = .ok (.return_, 1) := by decide +kernel
set_option maxRecDepth 20000 in
theorem ggX1_leastLeakAt_Jx4a65c_size_8abf5 : GoodIn wsX1_leastLeakAt wsJx4a65c_size_8abf5 := goodIn_r _ [17, 18, 60, 61, 62] (by decide +kernel) (by decide +kernel)
set_option maxRecDepth 20000 in
theorem gX1_leastLeakAt_Jx4a65c_size_8abf5 : GoodIn wsX1_leastLeakAt (wsV RX1 25 RJx4a65c yJx4a65c_size_8abf5 wsJx4a65c_size_8abf5) := goodIn_app (goodIn_of _ (by decide +kernel)) ggX1_leastLeakAt_Jx4a65c_size_8abf5
set_option maxRecDepth 20000 in
theorem ggX1_leastLeakAt_Jx4a65c_get_915e3 : GoodIn wsX1_leastLeakAt wsJx4a65c_get_915e3 := goodIn_r _ [22, 18, 23, 24, 25, 26, 27, 28, 29, 30, 31, 32, 33, 16, 34, 35, 60, 61, 62] (by decide +kernel) (by decide +kernel)
set_option maxRecDepth 20000 in
theorem gX1_leastLeakAt_Jx4a65c_get_915e3 : GoodIn wsX1_leastLeakAt (wsV RX1 36 RJx4a65c yJx4a65c_get_915e3 wsJx4a65c_get_915e3) := goodIn_app (goodIn_of _ (by decide +kernel)) ggX1_leastLeakAt_Jx4a65c_get_915e3
set_option maxRecDepth 20000 in
theorem ggX1_leastLeakAt_X3_airBehindLeaks : GoodIn wsX1_leastLeakAt wsX3_airBehindLeaks := goodIn_r _ [40, 41, 42, 7, 8, 9, 63, 64, 65, 66, 67, 68] (by decide +kernel) (by decide +kernel)
set_option maxRecDepth 20000 in
theorem gX1_leastLeakAt_X3_airBehindLeaks : GoodIn wsX1_leastLeakAt (wsV RX1 45 RX3 yX3_airBehindLeaks wsX3_airBehindLeaks) := goodIn_app (goodIn_of _ (by decide +kernel)) ggX1_leastLeakAt_X3_airBehindLeaks
set_option maxRecDepth 20000 in
theorem ggX1_leastLeakAt_X3_isFedThrough : GoodIn wsX1_leastLeakAt wsX3_isFedThrough := goodIn_r _ [46, 47, 63, 64, 65, 66, 67, 68] (by decide +kernel) (by decide +kernel)
set_option maxRecDepth 20000 in
theorem gX1_leastLeakAt_X3_isFedThrough : GoodIn wsX1_leastLeakAt (wsV RX1 54 RX3 yX3_isFedThrough wsX3_isFedThrough) := goodIn_app (goodIn_of _ (by decide +kernel)) ggX1_leastLeakAt_X3_isFedThrough
theorem dX1_leastLeakAt_0 : decode cX1_leastLeakAt 0 = .ok (.iconst 1, 1) := by decide +kernel
theorem dX1_leastLeakAt_1 : decode cX1_leastLeakAt 1 = .ok (.istore_n 2, 1) := by decide +kernel
theorem dX1_leastLeakAt_2 : decode cX1_leastLeakAt 2 = .ok (.bipush 60, 2) := by decide +kernel
theorem dX1_leastLeakAt_4 : decode cX1_leastLeakAt 4 = .ok (.istore_n 3, 1) := by decide +kernel
theorem dX1_leastLeakAt_5 : decode cX1_leastLeakAt 5 = .ok (.iconst 0, 1) := by decide +kernel
theorem dX1_leastLeakAt_6 : decode cX1_leastLeakAt 6 = .ok (.istore 4, 2) := by decide +kernel
theorem dX1_leastLeakAt_8 : decode cX1_leastLeakAt 8 = .ok (.iload 4, 2) := by decide +kernel
theorem dX1_leastLeakAt_10 : decode cX1_leastLeakAt 10 = .ok (.aload_n 1, 1) := by decide +kernel
theorem dX1_leastLeakAt_11 : decode cX1_leastLeakAt 11 = .ok (.invokevirtual 25, 3) := by decide +kernel
theorem dX1_leastLeakAt_14 : decode cX1_leastLeakAt 14 = .ok (.if_icmp .ge 104, 3) := by decide +kernel
theorem dX1_leastLeakAt_17 : decode cX1_leastLeakAt 17 = .ok (.aload_n 1, 1) := by decide +kernel
theorem dX1_leastLeakAt_18 : decode cX1_leastLeakAt 18 = .ok (.iload 4, 2) := by decide +kernel
theorem dX1_leastLeakAt_20 : decode cX1_leastLeakAt 20 = .ok (.invokevirtual 36, 3) := by decide +kernel
theorem dX1_leastLeakAt_23 : decode cX1_leastLeakAt 23 = .ok (.checkcast 40, 3) := by decide +kernel
theorem dX1_leastLeakAt_26 : decode cX1_leastLeakAt 26 = .ok (.astore 5, 2) := by decide +kernel
theorem dX1_leastLeakAt_28 : decode cX1_leastLeakAt 28 = .ok (.aload 5, 2) := by decide +kernel
theorem dX1_leastLeakAt_30 : decode cX1_leastLeakAt 30 = .ok (.getfield 42, 3) := by decide +kernel
theorem dX1_leastLeakAt_33 : decode cX1_leastLeakAt 33 = .ok (.iconst 0, 1) := by decide +kernel
theorem dX1_leastLeakAt_34 : decode cX1_leastLeakAt 34 = .ok (.invokevirtual 45, 3) := by decide +kernel
theorem dX1_leastLeakAt_37 : decode cX1_leastLeakAt 37 = .ok (.aload 5, 2) := by decide +kernel
theorem dX1_leastLeakAt_39 : decode cX1_leastLeakAt 39 = .ok (.getfield 51, 3) := by decide +kernel
theorem dX1_leastLeakAt_42 : decode cX1_leastLeakAt 42 = .ok (.isub, 1) := by decide +kernel
theorem dX1_leastLeakAt_43 : decode cX1_leastLeakAt 43 = .ok (.istore 6, 2) := by decide +kernel
theorem dX1_leastLeakAt_45 : decode cX1_leastLeakAt 45 = .ok (.iload 6, 2) := by decide +kernel
theorem dX1_leastLeakAt_47 : decode cX1_leastLeakAt 47 = .ok (.ifCond .ge 6, 3) := by decide +kernel
theorem dX1_leastLeakAt_50 : decode cX1_leastLeakAt 50 = .ok (.goto 62, 3) := by decide +kernel
theorem dX1_leastLeakAt_53 : decode cX1_leastLeakAt 53 = .ok (.aload 5, 2) := by decide +kernel
theorem dX1_leastLeakAt_55 : decode cX1_leastLeakAt 55 = .ok (.getfield 42, 3) := by decide +kernel
theorem dX1_leastLeakAt_58 : decode cX1_leastLeakAt 58 = .ok (.iload_n 0, 1) := by decide +kernel
theorem dX1_leastLeakAt_59 : decode cX1_leastLeakAt 59 = .ok (.invokevirtual 54, 3) := by decide +kernel
theorem dX1_leastLeakAt_62 : decode cX1_leastLeakAt 62 = .ok (.istore 7, 2) := by decide +kernel
theorem dX1_leastLeakAt_64 : decode cX1_leastLeakAt 64 = .ok (.aload 5, 2) := by decide +kernel
theorem dX1_leastLeakAt_66 : decode cX1_leastLeakAt 66 = .ok (.getfield 58, 3) := by decide +kernel
theorem dX1_leastLeakAt_69 : decode cX1_leastLeakAt 69 = .ok (.ifCond .eq 11, 3) := by decide +kernel
theorem dX1_leastLeakAt_72 : decode cX1_leastLeakAt 72 = .ok (.iload 7, 2) := by decide +kernel
theorem dX1_leastLeakAt_74 : decode cX1_leastLeakAt 74 = .ok (.ifCond .ne 6, 3) := by decide +kernel
theorem dX1_leastLeakAt_77 : decode cX1_leastLeakAt 77 = .ok (.ldc 35, 2) := by decide +kernel
theorem dX1_leastLeakAt_79 : decode cX1_leastLeakAt 79 = .ok (.ireturn, 1) := by decide +kernel
theorem dX1_leastLeakAt_80 : decode cX1_leastLeakAt 80 = .ok (.aload 5, 2) := by decide +kernel
theorem dX1_leastLeakAt_82 : decode cX1_leastLeakAt 82 = .ok (.getfield 58, 3) := by decide +kernel
theorem dX1_leastLeakAt_85 : decode cX1_leastLeakAt 85 = .ok (.ifCond .eq 15, 3) := by decide +kernel
theorem dX1_leastLeakAt_88 : decode cX1_leastLeakAt 88 = .ok (.iload_n 2, 1) := by decide +kernel
theorem dX1_leastLeakAt_89 : decode cX1_leastLeakAt 89 = .ok (.iload 6, 2) := by decide +kernel
theorem dX1_leastLeakAt_91 : decode cX1_leastLeakAt 91 = .ok (.iconst 1, 1) := by decide +kernel
theorem dX1_leastLeakAt_92 : decode cX1_leastLeakAt 92 = .ok (.iadd, 1) := by decide +kernel
theorem dX1_leastLeakAt_93 : decode cX1_leastLeakAt 93 = .ok (.invokestatic 62, 3) := by decide +kernel
theorem dX1_leastLeakAt_96 : decode cX1_leastLeakAt 96 = .ok (.istore_n 2, 1) := by decide +kernel
theorem dX1_leastLeakAt_97 : decode cX1_leastLeakAt 97 = .ok (.goto 15, 3) := by decide +kernel
theorem dX1_leastLeakAt_100 : decode cX1_leastLeakAt 100 = .ok (.iload 7, 2) := by decide +kernel
theorem dX1_leastLeakAt_102 : decode cX1_leastLeakAt 102 = .ok (.ifCond .eq 10, 3) := by decide +kernel
theorem dX1_leastLeakAt_105 : decode cX1_leastLeakAt 105 = .ok (.iload_n 3, 1) := by decide +kernel
theorem dX1_leastLeakAt_106 : decode cX1_leastLeakAt 106 = .ok (.iload 6, 2) := by decide +kernel
theorem dX1_leastLeakAt_108 : decode cX1_leastLeakAt 108 = .ok (.invokestatic 68, 3) := by decide +kernel
theorem dX1_leastLeakAt_111 : decode cX1_leastLeakAt 111 = .ok (.istore_n 3, 1) := by decide +kernel
theorem dX1_leastLeakAt_112 : decode cX1_leastLeakAt 112 = .ok (.iinc 4 1, 3) := by decide +kernel
theorem dX1_leastLeakAt_115 : decode cX1_leastLeakAt 115 = .ok (.goto (-107), 3) := by decide +kernel
theorem dX1_leastLeakAt_118 : decode cX1_leastLeakAt 118 = .ok (.iload_n 2, 1) := by decide +kernel
theorem dX1_leastLeakAt_119 : decode cX1_leastLeakAt 119 = .ok (.iload_n 3, 1) := by decide +kernel
theorem dX1_leastLeakAt_120 : decode cX1_leastLeakAt 120 = .ok (.if_icmp .gt 7, 3) := by decide +kernel
theorem dX1_leastLeakAt_123 : decode cX1_leastLeakAt 123 = .ok (.iload_n 2, 1) := by decide +kernel
theorem dX1_leastLeakAt_124 : decode cX1_leastLeakAt 124 = .ok (.goto 5, 3) := by decide +kernel
theorem dX1_leastLeakAt_127 : decode cX1_leastLeakAt 127 = .ok (.ldc 35, 2) := by decide +kernel
theorem dX1_leastLeakAt_129 : decode cX1_leastLeakAt 129 = .ok (.ireturn, 1) := by decide +kernel
set_option maxRecDepth 20000 in
theorem ggX1_unlikePairs_J7_fill_53178 : GoodIn wsX1_unlikePairs wsJ7_fill_53178 := goodIn_r _ [8] (by decide +kernel) (by decide +kernel)
set_option maxRecDepth 20000 in
theorem gX1_unlikePairs_J7_fill_53178 : GoodIn wsX1_unlikePairs (va_wsS RX1 71 yJ7_fill_53178 wsJ7_fill_53178) := goodIn_app (goodIn_of _ (by decide +kernel)) ggX1_unlikePairs_J7_fill_53178
set_option maxRecDepth 20000 in
theorem ggX1_unlikePairs_X3_isFedThrough : GoodIn wsX1_unlikePairs wsX3_isFedThrough := goodIn_r _ [13, 14, 28, 29, 30, 31, 32, 33] (by decide +kernel) (by decide +kernel)
set_option maxRecDepth 20000 in
theorem gX1_unlikePairs_X3_isFedThrough : GoodIn wsX1_unlikePairs (wsV RX1 54 RX3 yX3_isFedThrough wsX3_isFedThrough) := goodIn_app (goodIn_of _ (by decide +kernel)) ggX1_unlikePairs_X3_isFedThrough
set_option maxRecDepth 20000 in
theorem ggX1_unlikePairs_X3_airBehindLeaks : GoodIn wsX1_unlikePairs wsX3_airBehindLeaks := goodIn_r _ [18, 19, 20, 21, 22, 23, 28, 29, 30, 31, 32, 33] (by decide +kernel) (by decide +kernel)
set_option maxRecDepth 20000 in
theorem gX1_unlikePairs_X3_airBehindLeaks : GoodIn wsX1_unlikePairs (wsV RX1 45 RX3 yX3_airBehindLeaks wsX3_airBehindLeaks) := goodIn_app (goodIn_of _ (by decide +kernel)) ggX1_unlikePairs_X3_airBehindLeaks
theorem dX1_unlikePairs_0 : decode cX1_unlikePairs 0 = .ok (.aload_n 0, 1) := by decide +kernel
theorem dX1_unlikePairs_1 : decode cX1_unlikePairs 1 = .ok (.getfield 18, 3) := by decide +kernel
theorem dX1_unlikePairs_4 : decode cX1_unlikePairs 4 = .ok (.iconst 0, 1) := by decide +kernel
theorem dX1_unlikePairs_5 : decode cX1_unlikePairs 5 = .ok (.invokestatic 71, 3) := by decide +kernel
theorem dX1_unlikePairs_8 : decode cX1_unlikePairs 8 = .ok (.iconst 0, 1) := by decide +kernel
theorem dX1_unlikePairs_9 : decode cX1_unlikePairs 9 = .ok (.istore_n 2, 1) := by decide +kernel
theorem dX1_unlikePairs_10 : decode cX1_unlikePairs 10 = .ok (.iconst 0, 1) := by decide +kernel
theorem dX1_unlikePairs_11 : decode cX1_unlikePairs 11 = .ok (.istore_n 3, 1) := by decide +kernel
theorem dX1_unlikePairs_12 : decode cX1_unlikePairs 12 = .ok (.iload_n 3, 1) := by decide +kernel
theorem dX1_unlikePairs_13 : decode cX1_unlikePairs 13 = .ok (.aload_n 0, 1) := by decide +kernel
theorem dX1_unlikePairs_14 : decode cX1_unlikePairs 14 = .ok (.getfield 21, 3) := by decide +kernel
theorem dX1_unlikePairs_17 : decode cX1_unlikePairs 17 = .ok (.if_icmp .ge 61, 3) := by decide +kernel
theorem dX1_unlikePairs_20 : decode cX1_unlikePairs 20 = .ok (.aload_n 1, 1) := by decide +kernel
theorem dX1_unlikePairs_21 : decode cX1_unlikePairs 21 = .ok (.aload_n 1, 1) := by decide +kernel
theorem dX1_unlikePairs_22 : decode cX1_unlikePairs 22 = .ok (.aload_n 0, 1) := by decide +kernel
theorem dX1_unlikePairs_23 : decode cX1_unlikePairs 23 = .ok (.getfield 9, 3) := by decide +kernel
theorem dX1_unlikePairs_26 : decode cX1_unlikePairs 26 = .ok (.iload_n 3, 1) := by decide +kernel
theorem dX1_unlikePairs_27 : decode cX1_unlikePairs 27 = .ok (.iaload, 1) := by decide +kernel
theorem dX1_unlikePairs_28 : decode cX1_unlikePairs 28 = .ok (.invokevirtual 54, 3) := by decide +kernel
theorem dX1_unlikePairs_31 : decode cX1_unlikePairs 31 = .ok (.ifCond .eq 12, 3) := by decide +kernel
theorem dX1_unlikePairs_34 : decode cX1_unlikePairs 34 = .ok (.aload_n 0, 1) := by decide +kernel
theorem dX1_unlikePairs_35 : decode cX1_unlikePairs 35 = .ok (.getfield 15, 3) := by decide +kernel
theorem dX1_unlikePairs_38 : decode cX1_unlikePairs 38 = .ok (.iload_n 3, 1) := by decide +kernel
theorem dX1_unlikePairs_39 : decode cX1_unlikePairs 39 = .ok (.iaload, 1) := by decide +kernel
theorem dX1_unlikePairs_40 : decode cX1_unlikePairs 40 = .ok (.goto 4, 3) := by decide +kernel
theorem dX1_unlikePairs_43 : decode cX1_unlikePairs 43 = .ok (.iconst 0, 1) := by decide +kernel
theorem dX1_unlikePairs_44 : decode cX1_unlikePairs 44 = .ok (.invokevirtual 45, 3) := by decide +kernel
theorem dX1_unlikePairs_47 : decode cX1_unlikePairs 47 = .ok (.istore 4, 2) := by decide +kernel
theorem dX1_unlikePairs_49 : decode cX1_unlikePairs 49 = .ok (.iload_n 2, 1) := by decide +kernel
theorem dX1_unlikePairs_50 : decode cX1_unlikePairs 50 = .ok (.iload_n 3, 1) := by decide +kernel
theorem dX1_unlikePairs_51 : decode cX1_unlikePairs 51 = .ok (.aload_n 0, 1) := by decide +kernel
theorem dX1_unlikePairs_52 : decode cX1_unlikePairs 52 = .ok (.getfield 18, 3) := by decide +kernel
theorem dX1_unlikePairs_55 : decode cX1_unlikePairs 55 = .ok (.iload 4, 2) := by decide +kernel
theorem dX1_unlikePairs_57 : decode cX1_unlikePairs 57 = .ok (.iaload, 1) := by decide +kernel
theorem dX1_unlikePairs_58 : decode cX1_unlikePairs 58 = .ok (.isub, 1) := by decide +kernel
theorem dX1_unlikePairs_59 : decode cX1_unlikePairs 59 = .ok (.iadd, 1) := by decide +kernel
theorem dX1_unlikePairs_60 : decode cX1_unlikePairs 60 = .ok (.istore_n 2, 1) := by decide +kernel
theorem dX1_unlikePairs_61 : decode cX1_unlikePairs 61 = .ok (.aload_n 0, 1) := by decide +kernel
theorem dX1_unlikePairs_62 : decode cX1_unlikePairs 62 = .ok (.getfield 18, 3) := by decide +kernel
theorem dX1_unlikePairs_65 : decode cX1_unlikePairs 65 = .ok (.iload 4, 2) := by decide +kernel
theorem dX1_unlikePairs_67 : decode cX1_unlikePairs 67 = .ok (.dup2, 1) := by decide +kernel
theorem dX1_unlikePairs_68 : decode cX1_unlikePairs 68 = .ok (.iaload, 1) := by decide +kernel
theorem dX1_unlikePairs_69 : decode cX1_unlikePairs 69 = .ok (.iconst 1, 1) := by decide +kernel
theorem dX1_unlikePairs_70 : decode cX1_unlikePairs 70 = .ok (.iadd, 1) := by decide +kernel
theorem dX1_unlikePairs_71 : decode cX1_unlikePairs 71 = .ok (.iastore, 1) := by decide +kernel
theorem dX1_unlikePairs_72 : decode cX1_unlikePairs 72 = .ok (.iinc 3 1, 3) := by decide +kernel
theorem dX1_unlikePairs_75 : decode cX1_unlikePairs 75 = .ok (.goto (-63), 3) := by decide +kernel
theorem dX1_unlikePairs_78 : decode cX1_unlikePairs 78 = .ok (.iload_n 2, 1) := by decide +kernel
theorem dX1_unlikePairs_79 : decode cX1_unlikePairs 79 = .ok (.ireturn, 1) := by decide +kernel
theorem dX2_init_0 : decode cX2_init 0 = .ok (.aload_n 0, 1) := by decide +kernel
theorem dX2_init_1 : decode cX2_init 1 = .ok (.invokespecial 1, 3) := by decide +kernel
theorem dX2_init_4 : decode cX2_init 4 = .ok (.return_, 1) := by decide +kernel
theorem dX2_tellMinute_0 : decode cX2_tellMinute 0 = .ok (.aload_n 0, 1) := by decide +kernel
theorem dX2_tellMinute_1 : decode cX2_tellMinute 1 = .ok (.dup, 1) := by decide +kernel
theorem dX2_tellMinute_2 : decode cX2_tellMinute 2 = .ok (.getfield 7, 3) := by decide +kernel
theorem dX2_tellMinute_5 : decode cX2_tellMinute 5 = .ok (.iconst 1, 1) := by decide +kernel
theorem dX2_tellMinute_6 : decode cX2_tellMinute 6 = .ok (.iadd, 1) := by decide +kernel
theorem dX2_tellMinute_7 : decode cX2_tellMinute 7 = .ok (.putfield 7, 3) := by decide +kernel
theorem dX2_tellMinute_10 : decode cX2_tellMinute 10 = .ok (.aload_n 0, 1) := by decide +kernel
theorem dX2_tellMinute_11 : decode cX2_tellMinute 11 = .ok (.dup, 1) := by decide +kernel
theorem dX2_tellMinute_12 : decode cX2_tellMinute 12 = .ok (.getfield 13, 3) := by decide +kernel
theorem dX2_tellMinute_15 : decode cX2_tellMinute 15 = .ok (.lconst 1, 1) := by decide +kernel
theorem dX2_tellMinute_16 : decode cX2_tellMinute 16 = .ok (.ladd, 1) := by decide +kernel
theorem dX2_tellMinute_17 : decode cX2_tellMinute 17 = .ok (.putfield 13, 3) := by decide +kernel
theorem dX2_tellMinute_20 : decode cX2_tellMinute 20 = .ok (.aload_n 0, 1) := by decide +kernel
theorem dX2_tellMinute_21 : decode cX2_tellMinute 21 = .ok (.dup, 1) := by decide +kernel
theorem dX2_tellMinute_22 : decode cX2_tellMinute 22 = .ok (.getfield 17, 3) := by decide +kernel
theorem dX2_tellMinute_25 : decode cX2_tellMinute 25 = .ok (.aload_n 0, 1) := by decide +kernel
theorem dX2_tellMinute_26 : decode cX2_tellMinute 26 = .ok (.getfield 20, 3) := by decide +kernel
theorem dX2_tellMinute_29 : decode cX2_tellMinute 29 = .ok (.i2l, 1) := by decide +kernel
theorem dX2_tellMinute_30 : decode cX2_tellMinute 30 = .ok (.ladd, 1) := by decide +kernel
theorem dX2_tellMinute_31 : decode cX2_tellMinute 31 = .ok (.putfield 17, 3) := by decide +kernel
theorem dX2_tellMinute_34 : decode cX2_tellMinute 34 = .ok (.return_, 1) := by decide +kernel
theorem dX2_putRightByStars_0 : decode cX2_putRightByStars 0 = .ok (.aload_n 0, 1) := by decide +kernel
theorem dX2_putRightByStars_1 : decode cX2_putRightByStars 1 = .ok (.getfield 17, 3) := by decide +kernel
theorem dX2_putRightByStars_4 : decode cX2_putRightByStars 4 = .ok (.lstore_n 1, 1) := by decide +kernel
theorem dX2_putRightByStars_5 : decode cX2_putRightByStars 5 = .ok (.aload_n 0, 1) := by decide +kernel
theorem dX2_putRightByStars_6 : decode cX2_putRightByStars 6 = .ok (.lconst 0, 1) := by decide +kernel
theorem dX2_putRightByStars_7 : decode cX2_putRightByStars 7 = .ok (.putfield 17, 3) := by decide +kernel
theorem dX2_putRightByStars_10 : decode cX2_putRightByStars 10 = .ok (.aload_n 0, 1) := by decide +kernel
theorem dX2_putRightByStars_11 : decode cX2_putRightByStars 11 = .ok (.lconst 0, 1) := by decide +kernel
theorem dX2_putRightByStars_12 : decode cX2_putRightByStars 12 = .ok (.putfield 13, 3) := by decide +kernel
theorem dX2_putRightByStars_15 : decode cX2_putRightByStars 15 = .ok (.aload_n 0, 1) := by decide +kernel
theorem dX2_putRightByStars_16 : decode cX2_putRightByStars 16 = .ok (.dup, 1) := by decide +kernel
theorem dX2_putRightByStars_17 : decode cX2_putRightByStars 17 = .ok (.getfield 23, 3) := by decide +kernel
theorem dX2_putRightByStars_20 : decode cX2_putRightByStars 20 = .ok (.iconst 1, 1) := by decide +kernel
theorem dX2_putRightByStars_21 : decode cX2_putRightByStars 21 = .ok (.iadd, 1) := by decide +kernel
theorem dX2_putRightByStars_22 : decode cX2_putRightByStars 22 = .ok (.putfield 23, 3) := by decide +kernel
theorem dX2_putRightByStars_25 : decode cX2_putRightByStars 25 = .ok (.lload_n 1, 1) := by decide +kernel
theorem dX2_putRightByStars_26 : decode cX2_putRightByStars 26 = .ok (.lreturn, 1) := by decide +kernel
theorem dX3_init_0 : decode cX3_init 0 = .ok (.aload_n 0, 1) := by decide +kernel
theorem dX3_init_1 : decode cX3_init 1 = .ok (.invokespecial 3, 3) := by decide +kernel
theorem dX3_init_4 : decode cX3_init 4 = .ok (.aload_n 0, 1) := by decide +kernel
theorem dX3_init_5 : decode cX3_init 5 = .ok (.iload_n 1, 1) := by decide +kernel
theorem dX3_init_6 : decode cX3_init 6 = .ok (.putfield 9, 3) := by decide +kernel
theorem dX3_init_9 : decode cX3_init 9 = .ok (.aload_n 0, 1) := by decide +kernel
theorem dX3_init_10 : decode cX3_init 10 = .ok (.aload_n 2, 1) := by decide +kernel
theorem dX3_init_11 : decode cX3_init 11 = .ok (.putfield 15, 3) := by decide +kernel
theorem dX3_init_14 : decode cX3_init 14 = .ok (.aload_n 0, 1) := by decide +kernel
theorem dX3_init_15 : decode cX3_init 15 = .ok (.iload_n 3, 1) := by decide +kernel
theorem dX3_init_16 : decode cX3_init 16 = .ok (.aload_n 2, 1) := by decide +kernel
theorem dX3_init_17 : decode cX3_init 17 = .ok (.ifnonnull 7, 3) := by decide +kernel
theorem dX3_init_20 : decode cX3_init 20 = .ok (.iconst 0, 1) := by decide +kernel
theorem dX3_init_21 : decode cX3_init 21 = .ok (.goto 7, 3) := by decide +kernel
theorem dX3_init_24 : decode cX3_init 24 = .ok (.aload_n 2, 1) := by decide +kernel
theorem dX3_init_25 : decode cX3_init 25 = .ok (.getfield 19, 3) := by decide +kernel
theorem dX3_init_28 : decode cX3_init 28 = .ok (.iadd, 1) := by decide +kernel
theorem dX3_init_29 : decode cX3_init 29 = .ok (.putfield 19, 3) := by decide +kernel
theorem dX3_init_32 : decode cX3_init 32 = .ok (.aload_n 0, 1) := by decide +kernel
theorem dX3_init_33 : decode cX3_init 33 = .ok (.iload 4, 2) := by decide +kernel
theorem dX3_init_35 : decode cX3_init 35 = .ok (.aload_n 2, 1) := by decide +kernel
theorem dX3_init_36 : decode cX3_init 36 = .ok (.ifnonnull 7, 3) := by decide +kernel
theorem dX3_init_39 : decode cX3_init 39 = .ok (.iconst 0, 1) := by decide +kernel
theorem dX3_init_40 : decode cX3_init 40 = .ok (.goto 7, 3) := by decide +kernel
theorem dX3_init_43 : decode cX3_init 43 = .ok (.aload_n 2, 1) := by decide +kernel
theorem dX3_init_44 : decode cX3_init 44 = .ok (.getfield 22, 3) := by decide +kernel
theorem dX3_init_47 : decode cX3_init 47 = .ok (.iadd, 1) := by decide +kernel
theorem dX3_init_48 : decode cX3_init 48 = .ok (.putfield 22, 3) := by decide +kernel
theorem dX3_init_51 : decode cX3_init 51 = .ok (.aload_n 0, 1) := by decide +kernel
theorem dX3_init_52 : decode cX3_init 52 = .ok (.iconst 1, 1) := by decide +kernel
theorem dX3_init_53 : decode cX3_init 53 = .ok (.iload_n 1, 1) := by decide +kernel
theorem dX3_init_54 : decode cX3_init 54 = .ok (.ishl, 1) := by decide +kernel
theorem dX3_init_55 : decode cX3_init 55 = .ok (.aload_n 2, 1) := by decide +kernel
theorem dX3_init_56 : decode cX3_init 56 = .ok (.ifnonnull 7, 3) := by decide +kernel
theorem dX3_init_59 : decode cX3_init 59 = .ok (.iconst 0, 1) := by decide +kernel
theorem dX3_init_60 : decode cX3_init 60 = .ok (.goto 7, 3) := by decide +kernel
theorem dX3_init_63 : decode cX3_init 63 = .ok (.aload_n 2, 1) := by decide +kernel
theorem dX3_init_64 : decode cX3_init 64 = .ok (.getfield 25, 3) := by decide +kernel
theorem dX3_init_67 : decode cX3_init 67 = .ok (.ior, 1) := by decide +kernel
theorem dX3_init_68 : decode cX3_init 68 = .ok (.putfield 25, 3) := by decide +kernel
theorem dX3_init_71 : decode cX3_init 71 = .ok (.return_, 1) := by decide +kernel
set_option maxRecDepth 20000 in
theorem ggX3_air_X3_airBehindLeaks : GoodIn wsX3_air wsX3_airBehindLeaks := goodIn_r _ [7, 8, 9, 10, 11, 12, 13, 14, 15, 16, 17, 18] (by decide +kernel) (by decide +kernel)
set_option maxRecDepth 20000 in
theorem gX3_air_X3_airBehindLeaks : GoodIn wsX3_air (wsV RX3 31 RX3 yX3_airBehindLeaks wsX3_airBehindLeaks) := goodIn_app (goodIn_of _ (by decide +kernel)) ggX3_air_X3_airBehindLeaks
theorem dX3_air_0 : decode cX3_air 0 = .ok (.iconst 0, 1) := by decide +kernel
theorem dX3_air_1 : decode cX3_air 1 = .ok (.istore_n 1, 1) := by decide +kernel
theorem dX3_air_2 : decode cX3_air 2 = .ok (.aload_n 0, 1) := by decide +kernel
theorem dX3_air_3 : decode cX3_air 3 = .ok (.astore_n 2, 1) := by decide +kernel
theorem dX3_air_4 : decode cX3_air 4 = .ok (.aload_n 2, 1) := by decide +kernel
theorem dX3_air_5 : decode cX3_air 5 = .ok (.ifnull 18, 3) := by decide +kernel
theorem dX3_air_8 : decode cX3_air 8 = .ok (.iload_n 1, 1) := by decide +kernel
theorem dX3_air_9 : decode cX3_air 9 = .ok (.aload_n 2, 1) := by decide +kernel
theorem dX3_air_10 : decode cX3_air 10 = .ok (.getfield 28, 3) := by decide +kernel
theorem dX3_air_13 : decode cX3_air 13 = .ok (.iadd, 1) := by decide +kernel
theorem dX3_air_14 : decode cX3_air 14 = .ok (.istore_n 1, 1) := by decide +kernel
theorem dX3_air_15 : decode cX3_air 15 = .ok (.aload_n 2, 1) := by decide +kernel
theorem dX3_air_16 : decode cX3_air 16 = .ok (.getfield 15, 3) := by decide +kernel
theorem dX3_air_19 : decode cX3_air 19 = .ok (.astore_n 2, 1) := by decide +kernel
theorem dX3_air_20 : decode cX3_air 20 = .ok (.goto (-16), 3) := by decide +kernel
theorem dX3_air_23 : decode cX3_air 23 = .ok (.aload_n 0, 1) := by decide +kernel
theorem dX3_air_24 : decode cX3_air 24 = .ok (.iload_n 1, 1) := by decide +kernel
theorem dX3_air_25 : decode cX3_air 25 = .ok (.invokevirtual 31, 3) := by decide +kernel
theorem dX3_air_28 : decode cX3_air 28 = .ok (.ireturn, 1) := by decide +kernel
theorem dX3_airBehindLeaks_0 : decode cX3_airBehindLeaks 0 = .ok (.iconst 0, 1) := by decide +kernel
theorem dX3_airBehindLeaks_1 : decode cX3_airBehindLeaks 1 = .ok (.bipush 100, 2) := by decide +kernel
theorem dX3_airBehindLeaks_3 : decode cX3_airBehindLeaks 3 = .ok (.aload_n 0, 1) := by decide +kernel
theorem dX3_airBehindLeaks_4 : decode cX3_airBehindLeaks 4 = .ok (.getfield 19, 3) := by decide +kernel
theorem dX3_airBehindLeaks_7 : decode cX3_airBehindLeaks 7 = .ok (.isub, 1) := by decide +kernel
theorem dX3_airBehindLeaks_8 : decode cX3_airBehindLeaks 8 = .ok (.iload_n 1, 1) := by decide +kernel
theorem dX3_airBehindLeaks_9 : decode cX3_airBehindLeaks 9 = .ok (.isub, 1) := by decide +kernel
theorem dX3_airBehindLeaks_10 : decode cX3_airBehindLeaks 10 = .ok (.invokestatic 35, 3) := by decide +kernel
theorem dX3_airBehindLeaks_13 : decode cX3_airBehindLeaks 13 = .ok (.ireturn, 1) := by decide +kernel
theorem dX3_isFedThrough_0 : decode cX3_isFedThrough 0 = .ok (.aload_n 0, 1) := by decide +kernel
theorem dX3_isFedThrough_1 : decode cX3_isFedThrough 1 = .ok (.getfield 25, 3) := by decide +kernel
theorem dX3_isFedThrough_4 : decode cX3_isFedThrough 4 = .ok (.iconst 1, 1) := by decide +kernel
theorem dX3_isFedThrough_5 : decode cX3_isFedThrough 5 = .ok (.iload_n 1, 1) := by decide +kernel
theorem dX3_isFedThrough_6 : decode cX3_isFedThrough 6 = .ok (.ishl, 1) := by decide +kernel
theorem dX3_isFedThrough_7 : decode cX3_isFedThrough 7 = .ok (.iand, 1) := by decide +kernel
theorem dX3_isFedThrough_8 : decode cX3_isFedThrough 8 = .ok (.ifCond .eq 7, 3) := by decide +kernel
theorem dX3_isFedThrough_11 : decode cX3_isFedThrough 11 = .ok (.iconst 1, 1) := by decide +kernel
theorem dX3_isFedThrough_12 : decode cX3_isFedThrough 12 = .ok (.goto 4, 3) := by decide +kernel
theorem dX3_isFedThrough_15 : decode cX3_isFedThrough 15 = .ok (.iconst 0, 1) := by decide +kernel
theorem dX3_isFedThrough_16 : decode cX3_isFedThrough 16 = .ok (.ireturn, 1) := by decide +kernel
set_option maxRecDepth 20000 in
theorem ggX4_init_X5_init : GoodIn wsX4_init wsX5_init := goodIn_r _ [13, 14, 2, 3, 15, 16, 17, 18, 19, 20, 21] (by decide +kernel) (by decide +kernel)
set_option maxRecDepth 20000 in
theorem gX4_init_X5_init_n11 : GoodIn wsX4_init (wsX5_init) := ggX4_init_X5_init
theorem dX6_init_0 : decode cX6_init 0 = .ok (.aload_n 0, 1) := by decide +kernel
theorem dX6_init_1 : decode cX6_init 1 = .ok (.invokespecial 1, 3) := by decide +kernel
theorem dX6_init_4 : decode cX6_init 4 = .ok (.aload_n 0, 1) := by decide +kernel
theorem dX6_init_5 : decode cX6_init 5 = .ok (.bipush 16, 2) := by decide +kernel
theorem dX6_init_7 : decode cX6_init 7 = .ok (.newarray .int, 2) := by decide +kernel
theorem dX6_init_9 : decode cX6_init 9 = .ok (.putfield 9, 3) := by decide +kernel
theorem dX6_init_12 : decode cX6_init 12 = .ok (.return_, 1) := by decide +kernel
theorem dX6_begin_0 : decode cX6_begin 0 = .ok (.aload_n 0, 1) := by decide +kernel
theorem dX6_begin_1 : decode cX6_begin 1 = .ok (.getfield 13, 3) := by decide +kernel
theorem dX6_begin_4 : decode cX6_begin 4 = .ok (.bipush 16, 2) := by decide +kernel
theorem dX6_begin_6 : decode cX6_begin 6 = .ok (.if_icmp .ge 23, 3) := by decide +kernel
theorem dX6_begin_9 : decode cX6_begin 9 = .ok (.aload_n 0, 1) := by decide +kernel
theorem dX6_begin_10 : decode cX6_begin 10 = .ok (.getfield 9, 3) := by decide +kernel
theorem dX6_begin_13 : decode cX6_begin 13 = .ok (.aload_n 0, 1) := by decide +kernel
theorem dX6_begin_14 : decode cX6_begin 14 = .ok (.getfield 13, 3) := by decide +kernel
theorem dX6_begin_17 : decode cX6_begin 17 = .ok (.iload_n 1, 1) := by decide +kernel
theorem dX6_begin_18 : decode cX6_begin 18 = .ok (.iastore, 1) := by decide +kernel
theorem dX6_begin_19 : decode cX6_begin 19 = .ok (.aload_n 0, 1) := by decide +kernel
theorem dX6_begin_20 : decode cX6_begin 20 = .ok (.dup, 1) := by decide +kernel
theorem dX6_begin_21 : decode cX6_begin 21 = .ok (.getfield 13, 3) := by decide +kernel
theorem dX6_begin_24 : decode cX6_begin 24 = .ok (.iconst 1, 1) := by decide +kernel
theorem dX6_begin_25 : decode cX6_begin 25 = .ok (.iadd, 1) := by decide +kernel
theorem dX6_begin_26 : decode cX6_begin 26 = .ok (.putfield 13, 3) := by decide +kernel
theorem dX6_begin_29 : decode cX6_begin 29 = .ok (.return_, 1) := by decide +kernel
