set_option maxRecDepth 20000 in
theorem ggX7_init_Jx4a65c_init_da8c8 : GoodIn wsX7_init wsJx4a65c_init_da8c8 := goodIn_r _ [29, 30, 31, 32, 33, 34, 35, 36, 37, 38, 39, 40, 41, 2, 3, 71, 72, 73] (by decide +kernel) (by decide +kernel)
set_option maxRecDepth 20000 in
theorem gX7_init_Jx4a65c_init_da8c8 : GoodIn wsX7_init (wsJx4a65c_init_da8c8) := ggX7_init_Jx4a65c_init_da8c8
set_option maxRecDepth 20000 in
theorem ggX7_init_X2_init : GoodIn wsX7_init wsX2_init := goodIn_r _ [43, 44, 2, 3] (by decide +kernel) (by decide +kernel)
set_option maxRecDepth 20000 in
theorem gX7_init_X2_init_n21 : GoodIn wsX7_init (wsX2_init) := ggX7_init_X2_init
set_option maxRecDepth 20000 in
theorem ggX7_init_X1_init : GoodIn wsX7_init wsX1_init := goodIn_r _ [46, 47, 2, 3, 48, 49, 50, 51, 87, 88, 89, 90] (by decide +kernel) (by decide +kernel)
set_option maxRecDepth 20000 in
theorem gX7_init_X1_init_n28 : GoodIn wsX7_init (wsX1_init) := ggX7_init_X1_init
set_option maxRecDepth 20000 in
theorem ggX7_init_X4_init : GoodIn wsX7_init wsX4_init := goodIn_r _ [53, 54, 2, 3, 55, 56, 57, 58, 48, 59, 60, 61, 62, 63, 64, 65, 66, 100, 101, 102, 103, 104, 91, 92, 93, 94, 95, 96, 97] (by decide +kernel) (by decide +kernel)
set_option maxRecDepth 20000 in
theorem gX7_init_X4_init_n35 : GoodIn wsX7_init (wsX4_init) := ggX7_init_X4_init
set_option maxRecDepth 20000 in
theorem ggX7_init_X6_init : GoodIn wsX7_init wsX6_init := goodIn_r _ [68, 69, 2, 3, 48, 70, 98, 99] (by decide +kernel) (by decide +kernel)
set_option maxRecDepth 20000 in
theorem gX7_init_X6_init_n47 : GoodIn wsX7_init (wsX6_init) := ggX7_init_X6_init
theorem dX7_init_0 : decode cX7_init 0 = .ok (.aload_n 0, 1) := by decide +kernel
theorem dX7_init_1 : decode cX7_init 1 = .ok (.invokespecial 1, 3) := by decide +kernel
theorem dX7_init_4 : decode cX7_init 4 = .ok (.aload_n 0, 1) := by decide +kernel
theorem dX7_init_5 : decode cX7_init 5 = .ok (.new 7, 3) := by decide +kernel
theorem dX7_init_8 : decode cX7_init 8 = .ok (.dup, 1) := by decide +kernel
theorem dX7_init_9 : decode cX7_init 9 = .ok (.invokespecial 9, 3) := by decide +kernel
theorem dX7_init_12 : decode cX7_init 12 = .ok (.putfield 10, 3) := by decide +kernel
theorem dX7_init_15 : decode cX7_init 15 = .ok (.aload_n 0, 1) := by decide +kernel
theorem dX7_init_16 : decode cX7_init 16 = .ok (.new 7, 3) := by decide +kernel
theorem dX7_init_19 : decode cX7_init 19 = .ok (.dup, 1) := by decide +kernel
theorem dX7_init_20 : decode cX7_init 20 = .ok (.invokespecial 9, 3) := by decide +kernel
theorem dX7_init_23 : decode cX7_init 23 = .ok (.putfield 16, 3) := by decide +kernel
theorem dX7_init_26 : decode cX7_init 26 = .ok (.aload_n 0, 1) := by decide +kernel
theorem dX7_init_27 : decode cX7_init 27 = .ok (.new 19, 3) := by decide +kernel
theorem dX7_init_30 : decode cX7_init 30 = .ok (.dup, 1) := by decide +kernel
theorem dX7_init_31 : decode cX7_init 31 = .ok (.invokespecial 21, 3) := by decide +kernel
theorem dX7_init_34 : decode cX7_init 34 = .ok (.putfield 22, 3) := by decide +kernel
theorem dX7_init_37 : decode cX7_init 37 = .ok (.aload_n 0, 1) := by decide +kernel
theorem dX7_init_38 : decode cX7_init 38 = .ok (.new 26, 3) := by decide +kernel
theorem dX7_init_41 : decode cX7_init 41 = .ok (.dup, 1) := by decide +kernel
theorem dX7_init_42 : decode cX7_init 42 = .ok (.invokespecial 28, 3) := by decide +kernel
theorem dX7_init_45 : decode cX7_init 45 = .ok (.putfield 29, 3) := by decide +kernel
theorem dX7_init_48 : decode cX7_init 48 = .ok (.aload_n 0, 1) := by decide +kernel
theorem dX7_init_49 : decode cX7_init 49 = .ok (.new 33, 3) := by decide +kernel
theorem dX7_init_52 : decode cX7_init 52 = .ok (.dup, 1) := by decide +kernel
theorem dX7_init_53 : decode cX7_init 53 = .ok (.invokespecial 35, 3) := by decide +kernel
theorem dX7_init_56 : decode cX7_init 56 = .ok (.putfield 36, 3) := by decide +kernel
theorem dX7_init_59 : decode cX7_init 59 = .ok (.aload_n 0, 1) := by decide +kernel
theorem dX7_init_60 : decode cX7_init 60 = .ok (.aload_n 0, 1) := by decide +kernel
theorem dX7_init_61 : decode cX7_init 61 = .ok (.getfield 36, 3) := by decide +kernel
theorem dX7_init_64 : decode cX7_init 64 = .ok (.getfield 40, 3) := by decide +kernel
theorem dX7_init_67 : decode cX7_init 67 = .ok (.putfield 44, 3) := by decide +kernel
theorem dX7_init_70 : decode cX7_init 70 = .ok (.aload_n 0, 1) := by decide +kernel
theorem dX7_init_71 : decode cX7_init 71 = .ok (.new 45, 3) := by decide +kernel
theorem dX7_init_74 : decode cX7_init 74 = .ok (.dup, 1) := by decide +kernel
theorem dX7_init_75 : decode cX7_init 75 = .ok (.invokespecial 47, 3) := by decide +kernel
theorem dX7_init_78 : decode cX7_init 78 = .ok (.putfield 48, 3) := by decide +kernel
theorem dX7_init_81 : decode cX7_init 81 = .ok (.return_, 1) := by decide +kernel
set_option maxRecDepth 20000 in
theorem ggX7_pipe_X7_pipeAt : GoodIn wsX7_pipe wsX7_pipeAt := goodIn_r _ [12, 3, 13, 14, 15, 16, 17, 18, 19, 20, 21, 11, 22, 23, 24, 25, 26, 27, 28, 29, 30, 31, 32, 33, 34, 35, 36, 37, 38, 39, 104, 105, 106, 107, 108, 109, 110, 111, 118, 119, 120] (by decide +kernel) (by decide +kernel)
set_option maxRecDepth 20000 in
theorem gX7_pipe_X7_pipeAt : GoodIn wsX7_pipe (wsV RX7 52 RX7 yX7_pipeAt wsX7_pipeAt) := goodIn_app (goodIn_of _ (by decide +kernel)) ggX7_pipe_X7_pipeAt
set_option maxRecDepth 20000 in
theorem ggX7_pipe_X7_within : GoodIn wsX7_pipe wsX7_within := goodIn_r _ [22] (by decide +kernel) (by decide +kernel)
set_option maxRecDepth 20000 in
theorem gX7_pipe_X7_within : GoodIn wsX7_pipe (va_wsS RX7 58 yX7_within wsX7_within) := goodIn_app (goodIn_of _ (by decide +kernel)) ggX7_pipe_X7_within
set_option maxRecDepth 20000 in
theorem ggX7_pipe_Jx4a65c_size_8abf5 : GoodIn wsX7_pipe wsJx4a65c_size_8abf5 := goodIn_r _ [18, 19, 118, 119, 120] (by decide +kernel) (by decide +kernel)
set_option maxRecDepth 20000 in
theorem gX7_pipe_Jx4a65c_size_8abf5 : GoodIn wsX7_pipe (wsV RX7 62 RJx4a65c yJx4a65c_size_8abf5 wsJx4a65c_size_8abf5) := goodIn_app (goodIn_of _ (by decide +kernel)) ggX7_pipe_Jx4a65c_size_8abf5
set_option maxRecDepth 20000 in
theorem ggX7_pipe_X3_init : GoodIn wsX7_pipe wsX3_init := goodIn_r _ [42, 43, 44, 45, 46, 47, 48, 49, 50, 112, 113, 114, 115, 116, 117] (by decide +kernel) (by decide +kernel)
set_option maxRecDepth 20000 in
theorem gX7_pipe_X3_init : GoodIn wsX7_pipe (wsX3_init) := ggX7_pipe_X3_init
set_option maxRecDepth 20000 in
theorem ggX7_pipe_Jx4a65c_add_9ea2d : GoodIn wsX7_pipe wsJx4a65c_add_9ea2d := goodIn_r _ [54, 55, 56, 39, 19, 57, 58, 59, 17, 60, 61, 62, 63, 64, 65, 66, 67, 68, 69, 70, 71, 72, 73, 74, 75, 76, 77, 78, 79, 80, 81, 82, 83, 84, 85, 86, 87, 88, 89, 90, 91, 92, 93, 94, 95, 96, 97, 98, 99, 100, 101, 102, 103, 118, 119, 120] (by decide +kernel) (by decide +kernel)
set_option maxRecDepth 20000 in
theorem gX7_pipe_Jx4a65c_add_9ea2d : GoodIn wsX7_pipe (wsV RX7 72 RJx4a65c yJx4a65c_add_9ea2d wsJx4a65c_add_9ea2d) := goodIn_app (goodIn_of _ (by decide +kernel)) ggX7_pipe_Jx4a65c_add_9ea2d
theorem dX7_pipe_0 : decode cX7_pipe 0 = .ok (.aload_n 0, 1) := by decide +kernel
theorem dX7_pipe_1 : decode cX7_pipe 1 = .ok (.iload_n 1, 1) := by decide +kernel
theorem dX7_pipe_2 : decode cX7_pipe 2 = .ok (.invokevirtual 52, 3) := by decide +kernel
theorem dX7_pipe_5 : decode cX7_pipe 5 = .ok (.astore 4, 2) := by decide +kernel
theorem dX7_pipe_7 : decode cX7_pipe 7 = .ok (.aload 4, 2) := by decide +kernel
theorem dX7_pipe_9 : decode cX7_pipe 9 = .ok (.ifnonnull 12, 3) := by decide +kernel
theorem dX7_pipe_12 : decode cX7_pipe 12 = .ok (.iload_n 1, 1) := by decide +kernel
theorem dX7_pipe_13 : decode cX7_pipe 13 = .ok (.ldc 56, 2) := by decide +kernel
theorem dX7_pipe_15 : decode cX7_pipe 15 = .ok (.if_icmp .eq 6, 3) := by decide +kernel
theorem dX7_pipe_18 : decode cX7_pipe 18 = .ok (.ldc 57, 2) := by decide +kernel
theorem dX7_pipe_20 : decode cX7_pipe 20 = .ok (.ireturn, 1) := by decide +kernel
theorem dX7_pipe_21 : decode cX7_pipe 21 = .ok (.iload_n 2, 1) := by decide +kernel
theorem dX7_pipe_22 : decode cX7_pipe 22 = .ok (.iconst 0, 1) := by decide +kernel
theorem dX7_pipe_23 : decode cX7_pipe 23 = .ok (.bipush 50, 2) := by decide +kernel
theorem dX7_pipe_25 : decode cX7_pipe 25 = .ok (.invokestatic 58, 3) := by decide +kernel
theorem dX7_pipe_28 : decode cX7_pipe 28 = .ok (.ifCond .eq 13, 3) := by decide +kernel
theorem dX7_pipe_31 : decode cX7_pipe 31 = .ok (.iload_n 3, 1) := by decide +kernel
theorem dX7_pipe_32 : decode cX7_pipe 32 = .ok (.iconst 0, 1) := by decide +kernel
theorem dX7_pipe_33 : decode cX7_pipe 33 = .ok (.bipush 20, 2) := by decide +kernel
theorem dX7_pipe_35 : decode cX7_pipe 35 = .ok (.invokestatic 58, 3) := by decide +kernel
theorem dX7_pipe_38 : decode cX7_pipe 38 = .ok (.ifCond .ne 6, 3) := by decide +kernel
theorem dX7_pipe_41 : decode cX7_pipe 41 = .ok (.ldc 57, 2) := by decide +kernel
theorem dX7_pipe_43 : decode cX7_pipe 43 = .ok (.ireturn, 1) := by decide +kernel
theorem dX7_pipe_44 : decode cX7_pipe 44 = .ok (.aload_n 0, 1) := by decide +kernel
theorem dX7_pipe_45 : decode cX7_pipe 45 = .ok (.getfield 10, 3) := by decide +kernel
theorem dX7_pipe_48 : decode cX7_pipe 48 = .ok (.invokevirtual 62, 3) := by decide +kernel
theorem dX7_pipe_51 : decode cX7_pipe 51 = .ok (.istore 5, 2) := by decide +kernel
theorem dX7_pipe_53 : decode cX7_pipe 53 = .ok (.iload 5, 2) := by decide +kernel
theorem dX7_pipe_55 : decode cX7_pipe 55 = .ok (.bipush 30, 2) := by decide +kernel
theorem dX7_pipe_57 : decode cX7_pipe 57 = .ok (.if_icmp .lt 6, 3) := by decide +kernel
theorem dX7_pipe_60 : decode cX7_pipe 60 = .ok (.ldc 66, 2) := by decide +kernel
theorem dX7_pipe_62 : decode cX7_pipe 62 = .ok (.ireturn, 1) := by decide +kernel
theorem dX7_pipe_63 : decode cX7_pipe 63 = .ok (.aload_n 0, 1) := by decide +kernel
theorem dX7_pipe_64 : decode cX7_pipe 64 = .ok (.getfield 10, 3) := by decide +kernel
theorem dX7_pipe_67 : decode cX7_pipe 67 = .ok (.new 67, 3) := by decide +kernel
theorem dX7_pipe_70 : decode cX7_pipe 70 = .ok (.dup, 1) := by decide +kernel
theorem dX7_pipe_71 : decode cX7_pipe 71 = .ok (.iload 5, 2) := by decide +kernel
theorem dX7_pipe_73 : decode cX7_pipe 73 = .ok (.aload 4, 2) := by decide +kernel
theorem dX7_pipe_75 : decode cX7_pipe 75 = .ok (.iload_n 2, 1) := by decide +kernel
theorem dX7_pipe_76 : decode cX7_pipe 76 = .ok (.iload_n 3, 1) := by decide +kernel
theorem dX7_pipe_77 : decode cX7_pipe 77 = .ok (.invokespecial 69, 3) := by decide +kernel
theorem dX7_pipe_80 : decode cX7_pipe 80 = .ok (.invokevirtual 72, 3) := by decide +kernel
theorem dX7_pipe_83 : decode cX7_pipe 83 = .ok (.pop, 1) := by decide +kernel
theorem dX7_pipe_84 : decode cX7_pipe 84 = .ok (.iload 5, 2) := by decide +kernel
theorem dX7_pipe_86 : decode cX7_pipe 86 = .ok (.ireturn, 1) := by decide +kernel
set_option maxRecDepth 20000 in
theorem ggX7_leak_X7_pipeAt : GoodIn wsX7_leak wsX7_pipeAt := goodIn_r _ [7, 8, 9, 10, 11, 12, 13, 14, 15, 16, 17, 6, 18, 19, 20, 21, 22, 23, 24, 25, 26, 27, 28, 29, 30, 31, 32, 33, 34, 35, 42, 43, 44, 45, 46, 47, 48, 49, 50, 51, 52] (by decide +kernel) (by decide +kernel)
set_option maxRecDepth 20000 in
theorem gX7_leak_X7_pipeAt : GoodIn wsX7_leak (wsV RX7 52 RX7 yX7_pipeAt wsX7_pipeAt) := goodIn_app (goodIn_of _ (by decide +kernel)) ggX7_leak_X7_pipeAt
set_option maxRecDepth 20000 in
theorem ggX7_leak_X7_within : GoodIn wsX7_leak wsX7_within := goodIn_r _ [18] (by decide +kernel) (by decide +kernel)
set_option maxRecDepth 20000 in
theorem gX7_leak_X7_within : GoodIn wsX7_leak (va_wsS RX7 58 yX7_within wsX7_within) := goodIn_app (goodIn_of _ (by decide +kernel)) ggX7_leak_X7_within
theorem dX7_leak_0 : decode cX7_leak 0 = .ok (.aload_n 0, 1) := by decide +kernel
theorem dX7_leak_1 : decode cX7_leak 1 = .ok (.iload_n 1, 1) := by decide +kernel
theorem dX7_leak_2 : decode cX7_leak 2 = .ok (.invokevirtual 52, 3) := by decide +kernel
theorem dX7_leak_5 : decode cX7_leak 5 = .ok (.astore_n 3, 1) := by decide +kernel
theorem dX7_leak_6 : decode cX7_leak 6 = .ok (.aload_n 3, 1) := by decide +kernel
theorem dX7_leak_7 : decode cX7_leak 7 = .ok (.ifnull 13, 3) := by decide +kernel
theorem dX7_leak_10 : decode cX7_leak 10 = .ok (.iload_n 2, 1) := by decide +kernel
theorem dX7_leak_11 : decode cX7_leak 11 = .ok (.iconst 0, 1) := by decide +kernel
theorem dX7_leak_12 : decode cX7_leak 12 = .ok (.bipush 60, 2) := by decide +kernel
theorem dX7_leak_14 : decode cX7_leak 14 = .ok (.invokestatic 58, 3) := by decide +kernel
theorem dX7_leak_17 : decode cX7_leak 17 = .ok (.ifCond .ne 6, 3) := by decide +kernel
theorem dX7_leak_20 : decode cX7_leak 20 = .ok (.ldc 57, 2) := by decide +kernel
theorem dX7_leak_22 : decode cX7_leak 22 = .ok (.ireturn, 1) := by decide +kernel
theorem dX7_leak_23 : decode cX7_leak 23 = .ok (.aload_n 3, 1) := by decide +kernel
theorem dX7_leak_24 : decode cX7_leak 24 = .ok (.getfield 76, 3) := by decide +kernel
theorem dX7_leak_27 : decode cX7_leak 27 = .ok (.istore 4, 2) := by decide +kernel
theorem dX7_leak_29 : decode cX7_leak 29 = .ok (.aload_n 3, 1) := by decide +kernel
theorem dX7_leak_30 : decode cX7_leak 30 = .ok (.iload_n 2, 1) := by decide +kernel
theorem dX7_leak_31 : decode cX7_leak 31 = .ok (.putfield 76, 3) := by decide +kernel
theorem dX7_leak_34 : decode cX7_leak 34 = .ok (.iload 4, 2) := by decide +kernel
theorem dX7_leak_36 : decode cX7_leak 36 = .ok (.ireturn, 1) := by decide +kernel
set_option maxRecDepth 20000 in
theorem ggX7_told_X7_pipeAt : GoodIn wsX7_told wsX7_pipeAt := goodIn_r _ [8, 9, 10, 11, 12, 13, 14, 15, 16, 17, 18, 7, 19, 20, 21, 22, 23, 24, 25, 26, 27, 28, 29, 30, 31, 32, 33, 34, 35, 36, 59, 60, 61, 62, 63, 64, 65, 66, 67, 68, 69] (by decide +kernel) (by decide +kernel)
set_option maxRecDepth 20000 in
theorem gX7_told_X7_pipeAt : GoodIn wsX7_told (wsV RX7 52 RX7 yX7_pipeAt wsX7_pipeAt) := goodIn_app (goodIn_of _ (by decide +kernel)) ggX7_told_X7_pipeAt
set_option maxRecDepth 20000 in
theorem ggX7_told_X3_air : GoodIn wsX7_told wsX3_air := goodIn_r _ [41, 42, 43, 44, 45, 46, 40, 47, 48, 49, 50, 51, 52, 53, 54, 55, 56, 57, 58] (by decide +kernel) (by decide +kernel)
set_option maxRecDepth 20000 in
theorem gX7_told_X3_air : GoodIn wsX7_told (wsV RX7 80 RX3 yX3_air wsX3_air) := goodIn_app (goodIn_of _ (by decide +kernel)) ggX7_told_X3_air
theorem dX7_told_0 : decode cX7_told 0 = .ok (.aload_n 0, 1) := by decide +kernel
theorem dX7_told_1 : decode cX7_told 1 = .ok (.iload_n 1, 1) := by decide +kernel
theorem dX7_told_2 : decode cX7_told 2 = .ok (.invokevirtual 52, 3) := by decide +kernel
theorem dX7_told_5 : decode cX7_told 5 = .ok (.astore_n 3, 1) := by decide +kernel
theorem dX7_told_6 : decode cX7_told 6 = .ok (.aload_n 3, 1) := by decide +kernel
theorem dX7_told_7 : decode cX7_told 7 = .ok (.ifnonnull 6, 3) := by decide +kernel
theorem dX7_told_10 : decode cX7_told 10 = .ok (.ldc 57, 2) := by decide +kernel
theorem dX7_told_12 : decode cX7_told 12 = .ok (.ireturn, 1) := by decide +kernel
theorem dX7_told_13 : decode cX7_told 13 = .ok (.iload_n 2, 1) := by decide +kernel
theorem dX7_told_14 : decode cX7_told 14 = .ok (.tableswitch 41 0 2 #[26, 31, 36], 26) := by decide +kernel
theorem dX7_told_40 : decode cX7_told 40 = .ok (.aload_n 3, 1) := by decide +kernel
theorem dX7_told_41 : decode cX7_told 41 = .ok (.invokevirtual 80, 3) := by decide +kernel
theorem dX7_told_44 : decode cX7_told 44 = .ok (.ireturn, 1) := by decide +kernel
theorem dX7_told_45 : decode cX7_told 45 = .ok (.aload_n 3, 1) := by decide +kernel
theorem dX7_told_46 : decode cX7_told 46 = .ok (.getfield 83, 3) := by decide +kernel
theorem dX7_told_49 : decode cX7_told 49 = .ok (.ireturn, 1) := by decide +kernel
theorem dX7_told_50 : decode cX7_told 50 = .ok (.aload_n 3, 1) := by decide +kernel
theorem dX7_told_51 : decode cX7_told 51 = .ok (.getfield 76, 3) := by decide +kernel
theorem dX7_told_54 : decode cX7_told 54 = .ok (.ireturn, 1) := by decide +kernel
theorem dX7_told_55 : decode cX7_told 55 = .ok (.ldc 57, 2) := by decide +kernel
theorem dX7_told_57 : decode cX7_told 57 = .ok (.ireturn, 1) := by decide +kernel
set_option maxRecDepth 20000 in
theorem ggX7_dial_X7_pipeAt : GoodIn wsX7_dial wsX7_pipeAt := goodIn_r _ [11, 12, 13, 14, 15, 16, 17, 18, 19, 20, 21, 10, 22, 23, 24, 25, 26, 27, 28, 29, 30, 31, 32, 33, 34, 35, 36, 37, 38, 39, 102, 103, 104, 105, 106, 107, 108, 109, 122, 123, 124] (by decide +kernel) (by decide +kernel)
set_option maxRecDepth 20000 in
theorem gX7_dial_X7_pipeAt : GoodIn wsX7_dial (wsV RX7 52 RX7 yX7_pipeAt wsX7_pipeAt) := goodIn_app (goodIn_of _ (by decide +kernel)) ggX7_dial_X7_pipeAt
set_option maxRecDepth 20000 in
theorem ggX7_dial_X7_within : GoodIn wsX7_dial wsX7_within := goodIn_r _ [22] (by decide +kernel) (by decide +kernel)
set_option maxRecDepth 20000 in
theorem gX7_dial_X7_within : GoodIn wsX7_dial (va_wsS RX7 58 yX7_within wsX7_within) := goodIn_app (goodIn_of _ (by decide +kernel)) ggX7_dial_X7_within
set_option maxRecDepth 20000 in
theorem ggX7_dial_Jx4a65c_size_8abf5 : GoodIn wsX7_dial wsJx4a65c_size_8abf5 := goodIn_r _ [18, 19, 122, 123, 124] (by decide +kernel) (by decide +kernel)
set_option maxRecDepth 20000 in
theorem gX7_dial_Jx4a65c_size_8abf5 : GoodIn wsX7_dial (wsV RX7 62 RJx4a65c yJx4a65c_size_8abf5 wsJx4a65c_size_8abf5) := goodIn_app (goodIn_of _ (by decide +kernel)) ggX7_dial_Jx4a65c_size_8abf5
set_option maxRecDepth 20000 in
theorem ggX7_dial_X0_init : GoodIn wsX7_dial wsX0_init := goodIn_r _ [42, 43, 44, 45, 46, 47, 48, 110, 111, 112, 113, 114, 115, 116, 117, 118, 119, 120, 121] (by decide +kernel) (by decide +kernel)
set_option maxRecDepth 20000 in
theorem gX7_dial_X0_init : GoodIn wsX7_dial (wsX0_init) := ggX7_dial_X0_init
set_option maxRecDepth 20000 in
theorem ggX7_dial_Jx4a65c_add_9ea2d : GoodIn wsX7_dial wsJx4a65c_add_9ea2d := goodIn_r _ [52, 53, 54, 39, 19, 55, 56, 57, 17, 58, 59, 60, 61, 62, 63, 64, 65, 66, 67, 68, 69, 70, 71, 72, 73, 74, 75, 76, 77, 78, 79, 80, 81, 82, 83, 84, 85, 86, 87, 88, 89, 90, 91, 92, 93, 94, 95, 96, 97, 98, 99, 100, 101, 122, 123, 124] (by decide +kernel) (by decide +kernel)
set_option maxRecDepth 20000 in
theorem gX7_dial_Jx4a65c_add_9ea2d : GoodIn wsX7_dial (wsV RX7 72 RJx4a65c yJx4a65c_add_9ea2d wsJx4a65c_add_9ea2d) := goodIn_app (goodIn_of _ (by decide +kernel)) ggX7_dial_Jx4a65c_add_9ea2d
theorem dX7_dial_0 : decode cX7_dial 0 = .ok (.aload_n 0, 1) := by decide +kernel
theorem dX7_dial_1 : decode cX7_dial 1 = .ok (.iload_n 1, 1) := by decide +kernel
theorem dX7_dial_2 : decode cX7_dial 2 = .ok (.invokevirtual 52, 3) := by decide +kernel
theorem dX7_dial_5 : decode cX7_dial 5 = .ok (.astore 4, 2) := by decide +kernel
theorem dX7_dial_7 : decode cX7_dial 7 = .ok (.aload 4, 2) := by decide +kernel
theorem dX7_dial_9 : decode cX7_dial 9 = .ok (.ifnull 22, 3) := by decide +kernel
theorem dX7_dial_12 : decode cX7_dial 12 = .ok (.iload_n 2, 1) := by decide +kernel
theorem dX7_dial_13 : decode cX7_dial 13 = .ok (.iconst 1, 1) := by decide +kernel
theorem dX7_dial_14 : decode cX7_dial 14 = .ok (.bipush 100, 2) := by decide +kernel
theorem dX7_dial_16 : decode cX7_dial 16 = .ok (.invokestatic 58, 3) := by decide +kernel
theorem dX7_dial_19 : decode cX7_dial 19 = .ok (.ifCond .eq 12, 3) := by decide +kernel
theorem dX7_dial_22 : decode cX7_dial 22 = .ok (.iload_n 3, 1) := by decide +kernel
theorem dX7_dial_23 : decode cX7_dial 23 = .ok (.iconst 0, 1) := by decide +kernel
theorem dX7_dial_24 : decode cX7_dial 24 = .ok (.iconst 2, 1) := by decide +kernel
theorem dX7_dial_25 : decode cX7_dial 25 = .ok (.invokestatic 58, 3) := by decide +kernel
theorem dX7_dial_28 : decode cX7_dial 28 = .ok (.ifCond .ne 6, 3) := by decide +kernel
theorem dX7_dial_31 : decode cX7_dial 31 = .ok (.ldc 57, 2) := by decide +kernel
theorem dX7_dial_33 : decode cX7_dial 33 = .ok (.ireturn, 1) := by decide +kernel
theorem dX7_dial_34 : decode cX7_dial 34 = .ok (.aload_n 0, 1) := by decide +kernel
theorem dX7_dial_35 : decode cX7_dial 35 = .ok (.getfield 16, 3) := by decide +kernel
theorem dX7_dial_38 : decode cX7_dial 38 = .ok (.invokevirtual 62, 3) := by decide +kernel
theorem dX7_dial_41 : decode cX7_dial 41 = .ok (.istore 5, 2) := by decide +kernel
theorem dX7_dial_43 : decode cX7_dial 43 = .ok (.iload 5, 2) := by decide +kernel
theorem dX7_dial_45 : decode cX7_dial 45 = .ok (.bipush 40, 2) := by decide +kernel
theorem dX7_dial_47 : decode cX7_dial 47 = .ok (.if_icmp .lt 6, 3) := by decide +kernel
theorem dX7_dial_50 : decode cX7_dial 50 = .ok (.ldc 66, 2) := by decide +kernel
theorem dX7_dial_52 : decode cX7_dial 52 = .ok (.ireturn, 1) := by decide +kernel
theorem dX7_dial_53 : decode cX7_dial 53 = .ok (.aload_n 0, 1) := by decide +kernel
theorem dX7_dial_54 : decode cX7_dial 54 = .ok (.getfield 16, 3) := by decide +kernel
theorem dX7_dial_57 : decode cX7_dial 57 = .ok (.new 86, 3) := by decide +kernel
theorem dX7_dial_60 : decode cX7_dial 60 = .ok (.dup, 1) := by decide +kernel
theorem dX7_dial_61 : decode cX7_dial 61 = .ok (.aload 4, 2) := by decide +kernel
theorem dX7_dial_63 : decode cX7_dial 63 = .ok (.iload_n 2, 1) := by decide +kernel
theorem dX7_dial_64 : decode cX7_dial 64 = .ok (.iload_n 3, 1) := by decide +kernel
theorem dX7_dial_65 : decode cX7_dial 65 = .ok (.invokespecial 88, 3) := by decide +kernel
theorem dX7_dial_68 : decode cX7_dial 68 = .ok (.invokevirtual 72, 3) := by decide +kernel
theorem dX7_dial_71 : decode cX7_dial 71 = .ok (.pop, 1) := by decide +kernel
theorem dX7_dial_72 : decode cX7_dial 72 = .ok (.iload 5, 2) := by decide +kernel
theorem dX7_dial_74 : decode cX7_dial 74 = .ok (.ireturn, 1) := by decide +kernel
set_option maxRecDepth 20000 in
theorem ggX7_puff_X2_tellMinute : GoodIn wsX7_puff wsX2_tellMinute := goodIn_r _ [12, 13, 14, 15, 16, 82, 83, 84, 85, 86] (by decide +kernel) (by decide +kernel)
set_option maxRecDepth 20000 in
theorem gX7_puff_X2_tellMinute : GoodIn wsX7_puff (wsV RX7 96 RX2 yX2_tellMinute wsX2_tellMinute) := goodIn_app (goodIn_of _ (by decide +kernel)) ggX7_puff_X2_tellMinute
set_option maxRecDepth 20000 in
theorem ggX7_puff_Jx4a65c_size_8abf5 : GoodIn wsX7_puff wsJx4a65c_size_8abf5 := goodIn_r _ [21, 22, 87, 88, 89] (by decide +kernel) (by decide +kernel)
set_option maxRecDepth 20000 in
theorem gX7_puff_Jx4a65c_size_8abf5 : GoodIn wsX7_puff (wsV RX7 62 RJx4a65c yJx4a65c_size_8abf5 wsJx4a65c_size_8abf5) := goodIn_app (goodIn_of _ (by decide +kernel)) ggX7_puff_Jx4a65c_size_8abf5
set_option maxRecDepth 20000 in
theorem ggX7_puff_Jx4a65c_get_915e3 : GoodIn wsX7_puff wsJx4a65c_get_915e3 := goodIn_r _ [26, 22, 27, 28, 29, 30, 31, 32, 33, 34, 35, 36, 37, 20, 38, 39, 87, 88, 89] (by decide +kernel) (by decide +kernel)
set_option maxRecDepth 20000 in
theorem gX7_puff_Jx4a65c_get_915e3 : GoodIn wsX7_puff (wsV RX7 99 RJx4a65c yJx4a65c_get_915e3 wsJx4a65c_get_915e3) := goodIn_app (goodIn_of _ (by decide +kernel)) ggX7_puff_Jx4a65c_get_915e3
set_option maxRecDepth 20000 in
theorem ggX7_puff_X0_takePuff : GoodIn wsX7_puff wsX0_takePuff := goodIn_r _ [44, 45, 46, 47, 48, 49, 50, 51, 52, 53, 54, 55, 56, 57, 58, 59, 60, 61, 62, 63, 64, 65, 66, 67, 68, 69, 70, 43, 71, 72, 73, 90, 91, 92, 93, 94, 95, 96, 97, 98, 99, 100, 101, 102, 103, 104, 105, 106, 107] (by decide +kernel) (by decide +kernel)
set_option maxRecDepth 20000 in
theorem gX7_puff_X0_takePuff : GoodIn wsX7_puff (wsV RX7 103 RX0 yX0_takePuff wsX0_takePuff) := goodIn_app (goodIn_of _ (by decide +kernel)) ggX7_puff_X0_takePuff
theorem dX7_puff_0 : decode cX7_puff 0 = .ok (.aload_n 0, 1) := by decide +kernel
theorem dX7_puff_1 : decode cX7_puff 1 = .ok (.getfield 22, 3) := by decide +kernel
theorem dX7_puff_4 : decode cX7_puff 4 = .ok (.getfield 91, 3) := by decide +kernel
theorem dX7_puff_7 : decode cX7_puff 7 = .ok (.ldc 94, 2) := by decide +kernel
theorem dX7_puff_9 : decode cX7_puff 9 = .ok (.if_icmp .lt 6, 3) := by decide +kernel
theorem dX7_puff_12 : decode cX7_puff 12 = .ok (.ldc 95, 2) := by decide +kernel
theorem dX7_puff_14 : decode cX7_puff 14 = .ok (.ireturn, 1) := by decide +kernel
theorem dX7_puff_15 : decode cX7_puff 15 = .ok (.aload_n 0, 1) := by decide +kernel
theorem dX7_puff_16 : decode cX7_puff 16 = .ok (.getfield 22, 3) := by decide +kernel
theorem dX7_puff_19 : decode cX7_puff 19 = .ok (.invokevirtual 96, 3) := by decide +kernel
theorem dX7_puff_22 : decode cX7_puff 22 = .ok (.iconst 0, 1) := by decide +kernel
theorem dX7_puff_23 : decode cX7_puff 23 = .ok (.istore_n 1, 1) := by decide +kernel
theorem dX7_puff_24 : decode cX7_puff 24 = .ok (.iconst 0, 1) := by decide +kernel
theorem dX7_puff_25 : decode cX7_puff 25 = .ok (.istore_n 2, 1) := by decide +kernel
theorem dX7_puff_26 : decode cX7_puff 26 = .ok (.iload_n 2, 1) := by decide +kernel
theorem dX7_puff_27 : decode cX7_puff 27 = .ok (.aload_n 0, 1) := by decide +kernel
theorem dX7_puff_28 : decode cX7_puff 28 = .ok (.getfield 16, 3) := by decide +kernel
theorem dX7_puff_31 : decode cX7_puff 31 = .ok (.invokevirtual 62, 3) := by decide +kernel
theorem dX7_puff_34 : decode cX7_puff 34 = .ok (.if_icmp .ge 29, 3) := by decide +kernel
theorem dX7_puff_37 : decode cX7_puff 37 = .ok (.aload_n 0, 1) := by decide +kernel
theorem dX7_puff_38 : decode cX7_puff 38 = .ok (.getfield 16, 3) := by decide +kernel
theorem dX7_puff_41 : decode cX7_puff 41 = .ok (.iload_n 2, 1) := by decide +kernel
theorem dX7_puff_42 : decode cX7_puff 42 = .ok (.invokevirtual 99, 3) := by decide +kernel
theorem dX7_puff_45 : decode cX7_puff 45 = .ok (.checkcast 86, 3) := by decide +kernel
theorem dX7_puff_48 : decode cX7_puff 48 = .ok (.invokevirtual 103, 3) := by decide +kernel
theorem dX7_puff_51 : decode cX7_puff 51 = .ok (.ifCond .ne 6, 3) := by decide +kernel
theorem dX7_puff_54 : decode cX7_puff 54 = .ok (.iinc 1 1, 3) := by decide +kernel
theorem dX7_puff_57 : decode cX7_puff 57 = .ok (.iinc 2 1, 3) := by decide +kernel
theorem dX7_puff_60 : decode cX7_puff 60 = .ok (.goto (-34), 3) := by decide +kernel
theorem dX7_puff_63 : decode cX7_puff 63 = .ok (.aload_n 0, 1) := by decide +kernel
theorem dX7_puff_64 : decode cX7_puff 64 = .ok (.iload_n 1, 1) := by decide +kernel
theorem dX7_puff_65 : decode cX7_puff 65 = .ok (.putfield 107, 3) := by decide +kernel
theorem dX7_puff_68 : decode cX7_puff 68 = .ok (.iload_n 1, 1) := by decide +kernel
theorem dX7_puff_69 : decode cX7_puff 69 = .ok (.ireturn, 1) := by decide +kernel
set_option maxRecDepth 20000 in
theorem ggX7_drift_X7_within : GoodIn wsX7_drift wsX7_within := goodIn_r _ [7] (by decide +kernel) (by decide +kernel)
set_option maxRecDepth 20000 in
theorem gX7_drift_X7_within : GoodIn wsX7_drift (va_wsS RX7 58 yX7_within wsX7_within) := goodIn_app (goodIn_of _ (by decide +kernel)) ggX7_drift_X7_within
theorem dX7_drift_0 : decode cX7_drift 0 = .ok (.iload_n 1, 1) := by decide +kernel
theorem dX7_drift_1 : decode cX7_drift 1 = .ok (.bipush (-5), 2) := by decide +kernel
theorem dX7_drift_3 : decode cX7_drift 3 = .ok (.iconst 5, 1) := by decide +kernel
theorem dX7_drift_4 : decode cX7_drift 4 = .ok (.invokestatic 58, 3) := by decide +kernel
theorem dX7_drift_7 : decode cX7_drift 7 = .ok (.ifCond .ne 6, 3) := by decide +kernel
theorem dX7_drift_10 : decode cX7_drift 10 = .ok (.ldc 57, 2) := by decide +kernel
theorem dX7_drift_12 : decode cX7_drift 12 = .ok (.ireturn, 1) := by decide +kernel
theorem dX7_drift_13 : decode cX7_drift 13 = .ok (.aload_n 0, 1) := by decide +kernel
theorem dX7_drift_14 : decode cX7_drift 14 = .ok (.getfield 22, 3) := by decide +kernel
theorem dX7_drift_17 : decode cX7_drift 17 = .ok (.getfield 110, 3) := by decide +kernel
theorem dX7_drift_20 : decode cX7_drift 20 = .ok (.istore_n 2, 1) := by decide +kernel
theorem dX7_drift_21 : decode cX7_drift 21 = .ok (.aload_n 0, 1) := by decide +kernel
theorem dX7_drift_22 : decode cX7_drift 22 = .ok (.getfield 22, 3) := by decide +kernel
theorem dX7_drift_25 : decode cX7_drift 25 = .ok (.iload_n 1, 1) := by decide +kernel
theorem dX7_drift_26 : decode cX7_drift 26 = .ok (.putfield 110, 3) := by decide +kernel
theorem dX7_drift_29 : decode cX7_drift 29 = .ok (.iload_n 2, 1) := by decide +kernel
theorem dX7_drift_30 : decode cX7_drift 30 = .ok (.ireturn, 1) := by decide +kernel
set_option maxRecDepth 20000 in
theorem ggX7_sight_X2_putRightByStars : GoodIn wsX7_sight wsX2_putRightByStars := goodIn_r _ [6, 7, 8, 9, 18, 19, 20, 21, 22] (by decide +kernel) (by decide +kernel)
set_option maxRecDepth 20000 in
theorem gX7_sight_X2_putRightByStars : GoodIn wsX7_sight (wsV RX7 113 RX2 yX2_putRightByStars wsX2_putRightByStars) := goodIn_app (goodIn_of _ (by decide +kernel)) ggX7_sight_X2_putRightByStars
theorem dX7_sight_0 : decode cX7_sight 0 = .ok (.aload_n 0, 1) := by decide +kernel
theorem dX7_sight_1 : decode cX7_sight 1 = .ok (.getfield 22, 3) := by decide +kernel
theorem dX7_sight_4 : decode cX7_sight 4 = .ok (.invokevirtual 113, 3) := by decide +kernel
theorem dX7_sight_7 : decode cX7_sight 7 = .ok (.lreturn, 1) := by decide +kernel
theorem dX7_now_0 : decode cX7_now 0 = .ok (.iload_n 1, 1) := by decide +kernel
theorem dX7_now_1 : decode cX7_now 1 = .ok (.tableswitch 85 0 4 #[35, 44, 52, 64, 76], 35) := by decide +kernel
theorem dX7_now_36 : decode cX7_now 36 = .ok (.aload_n 0, 1) := by decide +kernel
theorem dX7_now_37 : decode cX7_now 37 = .ok (.getfield 22, 3) := by decide +kernel
theorem dX7_now_40 : decode cX7_now 40 = .ok (.getfield 91, 3) := by decide +kernel
theorem dX7_now_43 : decode cX7_now 43 = .ok (.i2l, 1) := by decide +kernel
theorem dX7_now_44 : decode cX7_now 44 = .ok (.lreturn, 1) := by decide +kernel
theorem dX7_now_45 : decode cX7_now 45 = .ok (.aload_n 0, 1) := by decide +kernel
theorem dX7_now_46 : decode cX7_now 46 = .ok (.getfield 22, 3) := by decide +kernel
theorem dX7_now_49 : decode cX7_now 49 = .ok (.getfield 117, 3) := by decide +kernel
theorem dX7_now_52 : decode cX7_now 52 = .ok (.lreturn, 1) := by decide +kernel
theorem dX7_now_53 : decode cX7_now 53 = .ok (.ldc2_w 121, 3) := by decide +kernel
theorem dX7_now_56 : decode cX7_now 56 = .ok (.aload_n 0, 1) := by decide +kernel
theorem dX7_now_57 : decode cX7_now 57 = .ok (.getfield 22, 3) := by decide +kernel
theorem dX7_now_60 : decode cX7_now 60 = .ok (.getfield 123, 3) := by decide +kernel
theorem dX7_now_63 : decode cX7_now 63 = .ok (.lmul, 1) := by decide +kernel
theorem dX7_now_64 : decode cX7_now 64 = .ok (.lreturn, 1) := by decide +kernel
theorem dX7_now_65 : decode cX7_now 65 = .ok (.ldc2_w 126, 3) := by decide +kernel
theorem dX7_now_68 : decode cX7_now 68 = .ok (.aload_n 0, 1) := by decide +kernel
theorem dX7_now_69 : decode cX7_now 69 = .ok (.getfield 22, 3) := by decide +kernel
theorem dX7_now_72 : decode cX7_now 72 = .ok (.getfield 123, 3) := by decide +kernel
theorem dX7_now_75 : decode cX7_now 75 = .ok (.lmul, 1) := by decide +kernel
theorem dX7_now_76 : decode cX7_now 76 = .ok (.lreturn, 1) := by decide +kernel
theorem dX7_now_77 : decode cX7_now 77 = .ok (.aload_n 0, 1) := by decide +kernel
theorem dX7_now_78 : decode cX7_now 78 = .ok (.getfield 22, 3) := by decide +kernel
theorem dX7_now_81 : decode cX7_now 81 = .ok (.getfield 128, 3) := by decide +kernel
theorem dX7_now_84 : decode cX7_now 84 = .ok (.i2l, 1) := by decide +kernel
theorem dX7_now_85 : decode cX7_now 85 = .ok (.lreturn, 1) := by decide +kernel
theorem dX7_now_86 : decode cX7_now 86 = .ok (.ldc2_w 131, 3) := by decide +kernel
theorem dX7_now_89 : decode cX7_now 89 = .ok (.lreturn, 1) := by decide +kernel
set_option maxRecDepth 20000 in
theorem ggX7_look_X7_dialAt : GoodIn wsX7_look wsX7_dialAt := goodIn_r _ [7, 8, 9, 10, 11, 12, 13, 14, 15, 16, 17, 6, 18, 19, 20, 21, 22, 23, 24, 25, 26, 27, 28, 29, 30, 31, 32, 33, 34, 35, 56, 57, 58, 59, 60, 61, 62, 63, 64, 65, 66] (by decide +kernel) (by decide +kernel)
set_option maxRecDepth 20000 in
theorem gX7_look_X7_dialAt : GoodIn wsX7_look (wsV RX7 133 RX7 yX7_dialAt wsX7_dialAt) := goodIn_app (goodIn_of _ (by decide +kernel)) ggX7_look_X7_dialAt
set_option maxRecDepth 20000 in
theorem ggX7_look_X0_becomeKnown : GoodIn wsX7_look wsX0_becomeKnown := goodIn_r _ [40, 41, 42, 43, 44, 45, 46, 47, 48, 49, 50, 51, 52, 53, 54, 55] (by decide +kernel) (by decide +kernel)
set_option maxRecDepth 20000 in
theorem gX7_look_X0_becomeKnown : GoodIn wsX7_look (wsV RX7 137 RX0 yX0_becomeKnown wsX0_becomeKnown) := goodIn_app (goodIn_of _ (by decide +kernel)) ggX7_look_X0_becomeKnown
theorem dX7_look_0 : decode cX7_look 0 = .ok (.aload_n 0, 1) := by decide +kernel
theorem dX7_look_1 : decode cX7_look 1 = .ok (.iload_n 1, 1) := by decide +kernel
theorem dX7_look_2 : decode cX7_look 2 = .ok (.invokevirtual 133, 3) := by decide +kernel
theorem dX7_look_5 : decode cX7_look 5 = .ok (.astore_n 2, 1) := by decide +kernel
theorem dX7_look_6 : decode cX7_look 6 = .ok (.aload_n 2, 1) := by decide +kernel
theorem dX7_look_7 : decode cX7_look 7 = .ok (.ifnonnull 6, 3) := by decide +kernel
theorem dX7_look_10 : decode cX7_look 10 = .ok (.ldc 57, 2) := by decide +kernel
theorem dX7_look_12 : decode cX7_look 12 = .ok (.ireturn, 1) := by decide +kernel
theorem dX7_look_13 : decode cX7_look 13 = .ok (.aload_n 2, 1) := by decide +kernel
theorem dX7_look_14 : decode cX7_look 14 = .ok (.invokevirtual 137, 3) := by decide +kernel
theorem dX7_look_17 : decode cX7_look 17 = .ok (.aload_n 2, 1) := by decide +kernel
theorem dX7_look_18 : decode cX7_look 18 = .ok (.getfield 140, 3) := by decide +kernel
theorem dX7_look_21 : decode cX7_look 21 = .ok (.ireturn, 1) := by decide +kernel
set_option maxRecDepth 20000 in
theorem ggX7_state_X7_dialAt : GoodIn wsX7_state wsX7_dialAt := goodIn_r _ [13, 14, 15, 16, 17, 18, 19, 20, 21, 22, 23, 12, 24, 25, 26, 27, 28, 29, 30, 31, 32, 33, 34, 35, 36, 37, 38, 39, 40, 41, 60, 61, 62, 63, 64, 65, 66, 67, 68, 69, 70] (by decide +kernel) (by decide +kernel)
set_option maxRecDepth 20000 in
theorem gX7_state_X7_dialAt : GoodIn wsX7_state (wsV RX7 133 RX7 yX7_dialAt wsX7_dialAt) := goodIn_app (goodIn_of _ (by decide +kernel)) ggX7_state_X7_dialAt
theorem dX7_state_0 : decode cX7_state 0 = .ok (.aload_n 0, 1) := by decide +kernel
theorem dX7_state_1 : decode cX7_state 1 = .ok (.iload_n 1, 1) := by decide +kernel
theorem dX7_state_2 : decode cX7_state 2 = .ok (.invokevirtual 133, 3) := by decide +kernel
theorem dX7_state_5 : decode cX7_state 5 = .ok (.astore_n 3, 1) := by decide +kernel
theorem dX7_state_6 : decode cX7_state 6 = .ok (.aload_n 3, 1) := by decide +kernel
theorem dX7_state_7 : decode cX7_state 7 = .ok (.ifnonnull 6, 3) := by decide +kernel
theorem dX7_state_10 : decode cX7_state 10 = .ok (.ldc 57, 2) := by decide +kernel
theorem dX7_state_12 : decode cX7_state 12 = .ok (.ireturn, 1) := by decide +kernel
theorem dX7_state_13 : decode cX7_state 13 = .ok (.iload_n 2, 1) := by decide +kernel
theorem dX7_state_14 : decode cX7_state 14 = .ok (.tableswitch 76 0 5 #[38, 43, 48, 58, 63, 71], 38) := by decide +kernel
theorem dX7_state_52 : decode cX7_state 52 = .ok (.aload_n 3, 1) := by decide +kernel
theorem dX7_state_53 : decode cX7_state 53 = .ok (.getfield 140, 3) := by decide +kernel
theorem dX7_state_56 : decode cX7_state 56 = .ok (.ireturn, 1) := by decide +kernel
theorem dX7_state_57 : decode cX7_state 57 = .ok (.aload_n 3, 1) := by decide +kernel
theorem dX7_state_58 : decode cX7_state 58 = .ok (.getfield 143, 3) := by decide +kernel
theorem dX7_state_61 : decode cX7_state 61 = .ok (.ireturn, 1) := by decide +kernel
theorem dX7_state_62 : decode cX7_state 62 = .ok (.aload_n 3, 1) := by decide +kernel
theorem dX7_state_63 : decode cX7_state 63 = .ok (.getfield 143, 3) := by decide +kernel
theorem dX7_state_66 : decode cX7_state 66 = .ok (.aload_n 3, 1) := by decide +kernel
theorem dX7_state_67 : decode cX7_state 67 = .ok (.getfield 146, 3) := by decide +kernel
theorem dX7_state_70 : decode cX7_state 70 = .ok (.iadd, 1) := by decide +kernel
theorem dX7_state_71 : decode cX7_state 71 = .ok (.ireturn, 1) := by decide +kernel
theorem dX7_state_72 : decode cX7_state 72 = .ok (.aload_n 3, 1) := by decide +kernel
theorem dX7_state_73 : decode cX7_state 73 = .ok (.getfield 149, 3) := by decide +kernel
theorem dX7_state_76 : decode cX7_state 76 = .ok (.ireturn, 1) := by decide +kernel
theorem dX7_state_77 : decode cX7_state 77 = .ok (.aload_n 3, 1) := by decide +kernel
theorem dX7_state_78 : decode cX7_state 78 = .ok (.getfield 152, 3) := by decide +kernel
theorem dX7_state_81 : decode cX7_state 81 = .ok (.getfield 156, 3) := by decide +kernel
theorem dX7_state_84 : decode cX7_state 84 = .ok (.ireturn, 1) := by decide +kernel
theorem dX7_state_85 : decode cX7_state 85 = .ok (.aload_n 3, 1) := by decide +kernel
theorem dX7_state_86 : decode cX7_state 86 = .ok (.getfield 159, 3) := by decide +kernel
theorem dX7_state_89 : decode cX7_state 89 = .ok (.ireturn, 1) := by decide +kernel
theorem dX7_state_90 : decode cX7_state 90 = .ok (.ldc 57, 2) := by decide +kernel
theorem dX7_state_92 : decode cX7_state 92 = .ok (.ireturn, 1) := by decide +kernel
set_option maxRecDepth 20000 in
theorem ggX7_put_X7_dialAt : GoodIn wsX7_put wsX7_dialAt := goodIn_r _ [7, 8, 9, 10, 11, 12, 13, 14, 15, 16, 17, 6, 18, 19, 20, 21, 22, 23, 24, 25, 26, 27, 28, 29, 30, 31, 32, 33, 34, 35, 55, 56, 57, 58, 59, 60, 61, 62, 63, 64, 65] (by decide +kernel) (by decide +kernel)
set_option maxRecDepth 20000 in
theorem gX7_put_X7_dialAt : GoodIn wsX7_put (wsV RX7 133 RX7 yX7_dialAt wsX7_dialAt) := goodIn_app (goodIn_of _ (by decide +kernel)) ggX7_put_X7_dialAt
set_option maxRecDepth 20000 in
theorem ggX7_put_X7_within : GoodIn wsX7_put wsX7_within := goodIn_r _ [18] (by decide +kernel) (by decide +kernel)
set_option maxRecDepth 20000 in
theorem gX7_put_X7_within : GoodIn wsX7_put (va_wsS RX7 58 yX7_within wsX7_within) := goodIn_app (goodIn_of _ (by decide +kernel)) ggX7_put_X7_within
set_option maxRecDepth 20000 in
theorem ggX7_put_X0_putOn : GoodIn wsX7_put wsX0_putOn := goodIn_r _ [40, 41, 42, 43, 44, 45, 46, 47, 48, 49, 50, 51, 52, 53, 54] (by decide +kernel) (by decide +kernel)
set_option maxRecDepth 20000 in
theorem gX7_put_X0_putOn : GoodIn wsX7_put (wsV RX7 162 RX0 yX0_putOn wsX0_putOn) := goodIn_app (goodIn_of _ (by decide +kernel)) ggX7_put_X0_putOn
theorem dX7_put_0 : decode cX7_put 0 = .ok (.aload_n 0, 1) := by decide +kernel
theorem dX7_put_1 : decode cX7_put 1 = .ok (.iload_n 1, 1) := by decide +kernel
theorem dX7_put_2 : decode cX7_put 2 = .ok (.invokevirtual 133, 3) := by decide +kernel
theorem dX7_put_5 : decode cX7_put 5 = .ok (.astore_n 3, 1) := by decide +kernel
theorem dX7_put_6 : decode cX7_put 6 = .ok (.aload_n 3, 1) := by decide +kernel
theorem dX7_put_7 : decode cX7_put 7 = .ok (.ifnull 18, 3) := by decide +kernel
theorem dX7_put_10 : decode cX7_put 10 = .ok (.iload_n 2, 1) := by decide +kernel
theorem dX7_put_11 : decode cX7_put 11 = .ok (.ifCond .eq 14, 3) := by decide +kernel
theorem dX7_put_14 : decode cX7_put 14 = .ok (.iload_n 2, 1) := by decide +kernel
theorem dX7_put_15 : decode cX7_put 15 = .ok (.bipush (-60), 2) := by decide +kernel
theorem dX7_put_17 : decode cX7_put 17 = .ok (.bipush 60, 2) := by decide +kernel
theorem dX7_put_19 : decode cX7_put 19 = .ok (.invokestatic 58, 3) := by decide +kernel
theorem dX7_put_22 : decode cX7_put 22 = .ok (.ifCond .ne 6, 3) := by decide +kernel
theorem dX7_put_25 : decode cX7_put 25 = .ok (.ldc 57, 2) := by decide +kernel
theorem dX7_put_27 : decode cX7_put 27 = .ok (.ireturn, 1) := by decide +kernel
theorem dX7_put_28 : decode cX7_put 28 = .ok (.aload_n 3, 1) := by decide +kernel
theorem dX7_put_29 : decode cX7_put 29 = .ok (.iload_n 2, 1) := by decide +kernel
theorem dX7_put_30 : decode cX7_put 30 = .ok (.invokevirtual 162, 3) := by decide +kernel
theorem dX7_put_33 : decode cX7_put 33 = .ok (.aload_n 3, 1) := by decide +kernel
theorem dX7_put_34 : decode cX7_put 34 = .ok (.getfield 140, 3) := by decide +kernel
theorem dX7_put_37 : decode cX7_put 37 = .ok (.ireturn, 1) := by decide +kernel
set_option maxRecDepth 20000 in
theorem ggX7_right_X7_dialAt : GoodIn wsX7_right wsX7_dialAt := goodIn_r _ [7, 8, 9, 10, 11, 12, 13, 14, 15, 16, 17, 6, 18, 19, 20, 21, 22, 23, 24, 25, 26, 27, 28, 29, 30, 31, 32, 33, 34, 35, 61, 62, 63, 64, 65, 66, 67, 68, 69, 70, 71] (by decide +kernel) (by decide +kernel)
set_option maxRecDepth 20000 in
theorem gX7_right_X7_dialAt : GoodIn wsX7_right (wsV RX7 133 RX7 yX7_dialAt wsX7_dialAt) := goodIn_app (goodIn_of _ (by decide +kernel)) ggX7_right_X7_dialAt
set_option maxRecDepth 20000 in
theorem ggX7_right_X0_putRight : GoodIn wsX7_right wsX0_putRight := goodIn_r _ [40, 41, 42, 43, 44, 45, 39, 46, 47, 48, 49, 50, 51, 52, 53, 54, 55, 56, 57, 58, 59, 60] (by decide +kernel) (by decide +kernel)
set_option maxRecDepth 20000 in
theorem gX7_right_X0_putRight : GoodIn wsX7_right (wsV RX7 166 RX0 yX0_putRight wsX0_putRight) := goodIn_app (goodIn_of _ (by decide +kernel)) ggX7_right_X0_putRight
theorem dX7_right_0 : decode cX7_right 0 = .ok (.aload_n 0, 1) := by decide +kernel
theorem dX7_right_1 : decode cX7_right 1 = .ok (.iload_n 1, 1) := by decide +kernel
theorem dX7_right_2 : decode cX7_right 2 = .ok (.invokevirtual 133, 3) := by decide +kernel
theorem dX7_right_5 : decode cX7_right 5 = .ok (.astore_n 2, 1) := by decide +kernel
theorem dX7_right_6 : decode cX7_right 6 = .ok (.aload_n 2, 1) := by decide +kernel
theorem dX7_right_7 : decode cX7_right 7 = .ok (.ifnonnull 6, 3) := by decide +kernel
theorem dX7_right_10 : decode cX7_right 10 = .ok (.ldc 57, 2) := by decide +kernel
theorem dX7_right_12 : decode cX7_right 12 = .ok (.ireturn, 1) := by decide +kernel
theorem dX7_right_13 : decode cX7_right 13 = .ok (.aload_n 2, 1) := by decide +kernel
theorem dX7_right_14 : decode cX7_right 14 = .ok (.getfield 140, 3) := by decide +kernel
theorem dX7_right_17 : decode cX7_right 17 = .ok (.istore_n 3, 1) := by decide +kernel
theorem dX7_right_18 : decode cX7_right 18 = .ok (.aload_n 2, 1) := by decide +kernel
theorem dX7_right_19 : decode cX7_right 19 = .ok (.invokevirtual 166, 3) := by decide +kernel
theorem dX7_right_22 : decode cX7_right 22 = .ok (.iload_n 3, 1) := by decide +kernel
theorem dX7_right_23 : decode cX7_right 23 = .ok (.ireturn, 1) := by decide +kernel
set_option maxRecDepth 20000 in
theorem ggX7_round_X7_within : GoodIn wsX7_round wsX7_within := goodIn_r _ [5] (by decide +kernel) (by decide +kernel)
set_option maxRecDepth 20000 in
theorem gX7_round_X7_within : GoodIn wsX7_round (va_wsS RX7 58 yX7_within wsX7_within) := goodIn_app (goodIn_of _ (by decide +kernel)) ggX7_round_X7_within
set_option maxRecDepth 20000 in
theorem ggX7_round_X7_mostWrongDial : GoodIn wsX7_round wsX7_mostWrongDial := goodIn_r _ [9, 10, 11, 12, 13, 14, 15, 16, 17, 18, 19, 20, 21, 22, 23, 24, 25, 26, 27, 28, 29, 30, 31, 32, 33, 34, 35, 36, 37, 38, 39, 53, 54, 55, 56, 57, 58, 59, 60, 61, 62, 63, 64, 65, 66, 67, 68, 69, 70, 71, 72, 73, 74, 75] (by decide +kernel) (by decide +kernel)
set_option maxRecDepth 20000 in
theorem gX7_round_X7_mostWrongDial : GoodIn wsX7_round (wsV RX7 169 RX7 yX7_mostWrongDial wsX7_mostWrongDial) := goodIn_app (goodIn_of _ (by decide +kernel)) ggX7_round_X7_mostWrongDial
set_option maxRecDepth 20000 in
theorem ggX7_round_X0_putRight : GoodIn wsX7_round wsX0_putRight := goodIn_r _ [44, 45, 46, 47, 48, 49, 43, 50, 51, 52, 61, 62, 63, 64, 65, 66, 67, 68, 69, 70, 71, 72] (by decide +kernel) (by decide +kernel)
set_option maxRecDepth 20000 in
theorem gX7_round_X0_putRight : GoodIn wsX7_round (wsV RX7 166 RX0 yX0_putRight wsX0_putRight) := goodIn_app (goodIn_of _ (by decide +kernel)) ggX7_round_X0_putRight
theorem dX7_round_0 : decode cX7_round 0 = .ok (.iload_n 1, 1) := by decide +kernel
theorem dX7_round_1 : decode cX7_round 1 = .ok (.iconst 1, 1) := by decide +kernel
theorem dX7_round_2 : decode cX7_round 2 = .ok (.bipush 10, 2) := by decide +kernel
theorem dX7_round_4 : decode cX7_round 4 = .ok (.invokestatic 58, 3) := by decide +kernel
theorem dX7_round_7 : decode cX7_round 7 = .ok (.ifCond .ne 6, 3) := by decide +kernel
theorem dX7_round_10 : decode cX7_round 10 = .ok (.ldc 57, 2) := by decide +kernel
theorem dX7_round_12 : decode cX7_round 12 = .ok (.ireturn, 1) := by decide +kernel
theorem dX7_round_13 : decode cX7_round 13 = .ok (.iconst 0, 1) := by decide +kernel
theorem dX7_round_14 : decode cX7_round 14 = .ok (.istore_n 2, 1) := by decide +kernel
theorem dX7_round_15 : decode cX7_round 15 = .ok (.iload_n 2, 1) := by decide +kernel
theorem dX7_round_16 : decode cX7_round 16 = .ok (.iload_n 1, 1) := by decide +kernel
theorem dX7_round_17 : decode cX7_round 17 = .ok (.if_icmp .ge 24, 3) := by decide +kernel
theorem dX7_round_20 : decode cX7_round 20 = .ok (.aload_n 0, 1) := by decide +kernel
theorem dX7_round_21 : decode cX7_round 21 = .ok (.invokevirtual 169, 3) := by decide +kernel
theorem dX7_round_24 : decode cX7_round 24 = .ok (.astore_n 3, 1) := by decide +kernel
theorem dX7_round_25 : decode cX7_round 25 = .ok (.aload_n 3, 1) := by decide +kernel
theorem dX7_round_26 : decode cX7_round 26 = .ok (.ifnonnull 5, 3) := by decide +kernel
theorem dX7_round_29 : decode cX7_round 29 = .ok (.iload_n 2, 1) := by decide +kernel
theorem dX7_round_30 : decode cX7_round 30 = .ok (.ireturn, 1) := by decide +kernel
theorem dX7_round_31 : decode cX7_round 31 = .ok (.aload_n 3, 1) := by decide +kernel
theorem dX7_round_32 : decode cX7_round 32 = .ok (.invokevirtual 166, 3) := by decide +kernel
theorem dX7_round_35 : decode cX7_round 35 = .ok (.iinc 2 1, 3) := by decide +kernel
theorem dX7_round_38 : decode cX7_round 38 = .ok (.goto (-23), 3) := by decide +kernel
theorem dX7_round_41 : decode cX7_round 41 = .ok (.iload_n 2, 1) := by decide +kernel
theorem dX7_round_42 : decode cX7_round 42 = .ok (.ireturn, 1) := by decide +kernel
set_option maxRecDepth 20000 in
theorem ggX7_ahead_X7_dialAt : GoodIn wsX7_ahead wsX7_dialAt := goodIn_r _ [9, 10, 11, 12, 13, 14, 15, 16, 17, 18, 19, 8, 20, 21, 22, 23, 24, 25, 26, 27, 28, 29, 30, 31, 32, 33, 34, 35, 36, 37, 66, 67, 68, 69, 70, 71, 72, 73, 74, 75, 76] (by decide +kernel) (by decide +kernel)
set_option maxRecDepth 20000 in
theorem gX7_ahead_X7_dialAt : GoodIn wsX7_ahead (wsV RX7 133 RX7 yX7_dialAt wsX7_dialAt) := goodIn_app (goodIn_of _ (by decide +kernel)) ggX7_ahead_X7_dialAt
set_option maxRecDepth 20000 in
theorem ggX7_ahead_X0_toldKind : GoodIn wsX7_ahead wsX0_toldKind := goodIn_r _ [42, 43, 44, 48, 49, 50, 51, 52, 53, 54, 55, 56, 57, 58, 59] (by decide +kernel) (by decide +kernel)
set_option maxRecDepth 20000 in
theorem gX7_ahead_X0_toldKind : GoodIn wsX7_ahead (wsV RX7 173 RX0 yX0_toldKind wsX0_toldKind) := goodIn_app (goodIn_of _ (by decide +kernel)) ggX7_ahead_X0_toldKind
set_option maxRecDepth 20000 in
theorem ggX7_ahead_X7_isOfKind : GoodIn wsX7_ahead wsX7_isOfKind := goodIn_r _ [47] (by decide +kernel) (by decide +kernel)
set_option maxRecDepth 20000 in
theorem gX7_ahead_X7_isOfKind : GoodIn wsX7_ahead (va_wsS RX7 176 yX7_isOfKind wsX7_isOfKind) := goodIn_app (goodIn_of _ (by decide +kernel)) ggX7_ahead_X7_isOfKind
theorem dX7_ahead_0 : decode cX7_ahead 0 = .ok (.aload_n 0, 1) := by decide +kernel
theorem dX7_ahead_1 : decode cX7_ahead 1 = .ok (.iload_n 1, 1) := by decide +kernel
theorem dX7_ahead_2 : decode cX7_ahead 2 = .ok (.invokevirtual 133, 3) := by decide +kernel
theorem dX7_ahead_5 : decode cX7_ahead 5 = .ok (.astore_n 2, 1) := by decide +kernel
theorem dX7_ahead_6 : decode cX7_ahead 6 = .ok (.aload_n 2, 1) := by decide +kernel
theorem dX7_ahead_7 : decode cX7_ahead 7 = .ok (.ifnonnull 6, 3) := by decide +kernel
theorem dX7_ahead_10 : decode cX7_ahead 10 = .ok (.ldc 57, 2) := by decide +kernel
theorem dX7_ahead_12 : decode cX7_ahead 12 = .ok (.ireturn, 1) := by decide +kernel
theorem dX7_ahead_13 : decode cX7_ahead 13 = .ok (.aload_n 2, 1) := by decide +kernel
theorem dX7_ahead_14 : decode cX7_ahead 14 = .ok (.invokevirtual 173, 3) := by decide +kernel
theorem dX7_ahead_17 : decode cX7_ahead 17 = .ok (.iconst 1, 1) := by decide +kernel
theorem dX7_ahead_18 : decode cX7_ahead 18 = .ok (.invokestatic 176, 3) := by decide +kernel
theorem dX7_ahead_21 : decode cX7_ahead 21 = .ok (.ifCond .ne 6, 3) := by decide +kernel
theorem dX7_ahead_24 : decode cX7_ahead 24 = .ok (.ldc 180, 2) := by decide +kernel
theorem dX7_ahead_26 : decode cX7_ahead 26 = .ok (.ireturn, 1) := by decide +kernel
theorem dX7_ahead_27 : decode cX7_ahead 27 = .ok (.aload_n 2, 1) := by decide +kernel
theorem dX7_ahead_28 : decode cX7_ahead 28 = .ok (.getfield 152, 3) := by decide +kernel
theorem dX7_ahead_31 : decode cX7_ahead 31 = .ok (.getfield 83, 3) := by decide +kernel
theorem dX7_ahead_34 : decode cX7_ahead 34 = .ok (.bipush 10, 2) := by decide +kernel
theorem dX7_ahead_36 : decode cX7_ahead 36 = .ok (.iadd, 1) := by decide +kernel
theorem dX7_ahead_37 : decode cX7_ahead 37 = .ok (.iconst 1, 1) := by decide +kernel
theorem dX7_ahead_38 : decode cX7_ahead 38 = .ok (.isub, 1) := by decide +kernel
theorem dX7_ahead_39 : decode cX7_ahead 39 = .ok (.bipush 10, 2) := by decide +kernel
theorem dX7_ahead_41 : decode cX7_ahead 41 = .ok (.idiv, 1) := by decide +kernel
theorem dX7_ahead_42 : decode cX7_ahead 42 = .ok (.istore_n 3, 1) := by decide +kernel
theorem dX7_ahead_43 : decode cX7_ahead 43 = .ok (.iload_n 3, 1) := by decide +kernel
theorem dX7_ahead_44 : decode cX7_ahead 44 = .ok (.bipush 10, 2) := by decide +kernel
theorem dX7_ahead_46 : decode cX7_ahead 46 = .ok (.imul, 1) := by decide +kernel
theorem dX7_ahead_47 : decode cX7_ahead 47 = .ok (.ireturn, 1) := by decide +kernel
set_option maxRecDepth 20000 in
theorem ggX7_mark_X7_dialAt : GoodIn wsX7_mark wsX7_dialAt := goodIn_r _ [9, 3, 4, 10, 11, 12, 13, 14, 15, 16, 17, 8, 18, 19, 20, 21, 22, 23, 24, 25, 26, 27, 28, 29, 30, 31, 32, 33, 34, 35, 48, 49, 50, 51, 52, 53, 54, 55, 56, 57, 58] (by decide +kernel) (by decide +kernel)
set_option maxRecDepth 20000 in
theorem gX7_mark_X7_dialAt : GoodIn wsX7_mark (wsV RX7 133 RX7 yX7_dialAt wsX7_dialAt) := goodIn_app (goodIn_of _ (by decide +kernel)) ggX7_mark_X7_dialAt
set_option maxRecDepth 20000 in
theorem ggX7_mark_X7_within : GoodIn wsX7_mark wsX7_within := goodIn_r _ [18] (by decide +kernel) (by decide +kernel)
set_option maxRecDepth 20000 in
theorem gX7_mark_X7_within : GoodIn wsX7_mark (va_wsS RX7 58 yX7_within wsX7_within) := goodIn_app (goodIn_of _ (by decide +kernel)) ggX7_mark_X7_within
set_option maxRecDepth 20000 in
theorem ggX7_mark_Jx4a65c_size_8abf5 : GoodIn wsX7_mark wsJx4a65c_size_8abf5 := goodIn_r _ [14, 15, 56, 57, 58] (by decide +kernel) (by decide +kernel)
set_option maxRecDepth 20000 in
theorem gX7_mark_Jx4a65c_size_8abf5 : GoodIn wsX7_mark (wsV RX7 62 RJx4a65c yJx4a65c_size_8abf5 wsJx4a65c_size_8abf5) := goodIn_app (goodIn_of _ (by decide +kernel)) ggX7_mark_Jx4a65c_size_8abf5
set_option maxRecDepth 20000 in
theorem ggX7_mark_Jx4a65c_get_915e3 : GoodIn wsX7_mark wsJx4a65c_get_915e3 := goodIn_r _ [22, 15, 23, 24, 25, 26, 27, 28, 29, 30, 31, 32, 33, 13, 34, 35, 56, 57, 58] (by decide +kernel) (by decide +kernel)
set_option maxRecDepth 20000 in
theorem gX7_mark_Jx4a65c_get_915e3 : GoodIn wsX7_mark (wsV RX7 99 RJx4a65c yJx4a65c_get_915e3 wsJx4a65c_get_915e3) := goodIn_app (goodIn_of _ (by decide +kernel)) ggX7_mark_Jx4a65c_get_915e3
theorem dX7_mark_0 : decode cX7_mark 0 = .ok (.aload_n 0, 1) := by decide +kernel
theorem dX7_mark_1 : decode cX7_mark 1 = .ok (.iload_n 1, 1) := by decide +kernel
theorem dX7_mark_2 : decode cX7_mark 2 = .ok (.invokevirtual 133, 3) := by decide +kernel
theorem dX7_mark_5 : decode cX7_mark 5 = .ok (.astore_n 3, 1) := by decide +kernel
theorem dX7_mark_6 : decode cX7_mark 6 = .ok (.aload_n 3, 1) := by decide +kernel
theorem dX7_mark_7 : decode cX7_mark 7 = .ok (.ifnull 12, 3) := by decide +kernel
theorem dX7_mark_10 : decode cX7_mark 10 = .ok (.iload_n 2, 1) := by decide +kernel
theorem dX7_mark_11 : decode cX7_mark 11 = .ok (.iconst 0, 1) := by decide +kernel
theorem dX7_mark_12 : decode cX7_mark 12 = .ok (.iconst 1, 1) := by decide +kernel
theorem dX7_mark_13 : decode cX7_mark 13 = .ok (.invokestatic 58, 3) := by decide +kernel
theorem dX7_mark_16 : decode cX7_mark 16 = .ok (.ifCond .ne 6, 3) := by decide +kernel
theorem dX7_mark_19 : decode cX7_mark 19 = .ok (.ldc 57, 2) := by decide +kernel
theorem dX7_mark_21 : decode cX7_mark 21 = .ok (.ireturn, 1) := by decide +kernel
theorem dX7_mark_22 : decode cX7_mark 22 = .ok (.aload_n 3, 1) := by decide +kernel
theorem dX7_mark_23 : decode cX7_mark 23 = .ok (.iload_n 2, 1) := by decide +kernel
theorem dX7_mark_24 : decode cX7_mark 24 = .ok (.iconst 1, 1) := by decide +kernel
theorem dX7_mark_25 : decode cX7_mark 25 = .ok (.if_icmp .ne 7, 3) := by decide +kernel
theorem dX7_mark_28 : decode cX7_mark 28 = .ok (.iconst 1, 1) := by decide +kernel
theorem dX7_mark_29 : decode cX7_mark 29 = .ok (.goto 4, 3) := by decide +kernel
theorem dX7_mark_32 : decode cX7_mark 32 = .ok (.iconst 0, 1) := by decide +kernel
theorem dX7_mark_33 : decode cX7_mark 33 = .ok (.putfield 181, 3) := by decide +kernel
theorem dX7_mark_36 : decode cX7_mark 36 = .ok (.iconst 0, 1) := by decide +kernel
theorem dX7_mark_37 : decode cX7_mark 37 = .ok (.istore 4, 2) := by decide +kernel
theorem dX7_mark_39 : decode cX7_mark 39 = .ok (.iconst 0, 1) := by decide +kernel
theorem dX7_mark_40 : decode cX7_mark 40 = .ok (.istore 5, 2) := by decide +kernel
theorem dX7_mark_42 : decode cX7_mark 42 = .ok (.iload 5, 2) := by decide +kernel
theorem dX7_mark_44 : decode cX7_mark 44 = .ok (.aload_n 0, 1) := by decide +kernel
theorem dX7_mark_45 : decode cX7_mark 45 = .ok (.getfield 16, 3) := by decide +kernel
theorem dX7_mark_48 : decode cX7_mark 48 = .ok (.invokevirtual 62, 3) := by decide +kernel
theorem dX7_mark_51 : decode cX7_mark 51 = .ok (.if_icmp .ge 30, 3) := by decide +kernel
theorem dX7_mark_54 : decode cX7_mark 54 = .ok (.aload_n 0, 1) := by decide +kernel
theorem dX7_mark_55 : decode cX7_mark 55 = .ok (.getfield 16, 3) := by decide +kernel
theorem dX7_mark_58 : decode cX7_mark 58 = .ok (.iload 5, 2) := by decide +kernel
theorem dX7_mark_60 : decode cX7_mark 60 = .ok (.invokevirtual 99, 3) := by decide +kernel
theorem dX7_mark_63 : decode cX7_mark 63 = .ok (.checkcast 86, 3) := by decide +kernel
theorem dX7_mark_66 : decode cX7_mark 66 = .ok (.getfield 181, 3) := by decide +kernel
theorem dX7_mark_69 : decode cX7_mark 69 = .ok (.ifCond .eq 6, 3) := by decide +kernel
theorem dX7_mark_72 : decode cX7_mark 72 = .ok (.iinc 4 1, 3) := by decide +kernel
theorem dX7_mark_75 : decode cX7_mark 75 = .ok (.iinc 5 1, 3) := by decide +kernel
theorem dX7_mark_78 : decode cX7_mark 78 = .ok (.goto (-36), 3) := by decide +kernel
theorem dX7_mark_81 : decode cX7_mark 81 = .ok (.iload 4, 2) := by decide +kernel
theorem dX7_mark_83 : decode cX7_mark 83 = .ok (.ireturn, 1) := by decide +kernel
set_option maxRecDepth 20000 in
theorem ggX7_explains_X7_within : GoodIn wsX7_explains wsX7_within := goodIn_r _ [12] (by decide +kernel) (by decide +kernel)
set_option maxRecDepth 20000 in
theorem gX7_explains_X7_within : GoodIn wsX7_explains (va_wsS RX7 58 yX7_within wsX7_within) := goodIn_app (goodIn_of _ (by decide +kernel)) ggX7_explains_X7_within
set_option maxRecDepth 20000 in
theorem ggX7_explains_X1_find : GoodIn wsX7_explains wsX1_find := goodIn_r _ [17, 18, 19, 20, 21, 22, 23, 24, 25, 26, 27, 28, 29, 16, 30, 31, 32, 33, 34, 35, 36, 37, 38, 39, 40, 41, 42, 43, 44, 45, 46, 47, 48, 49, 50, 51, 52, 53, 54, 55, 56, 57, 58, 59, 60, 61, 62, 63, 64, 65, 66, 67, 68, 69, 70, 79, 80, 81, 82, 83, 84, 85, 86, 87, 88, 89, 90, 91, 92, 93, 94, 95, 96, 97, 98, 99, 100, 101, 102, 103] (by decide +kernel) (by decide +kernel)
set_option maxRecDepth 20000 in
theorem gX7_explains_X1_find : GoodIn wsX7_explains (wsV RX7 185 RX1 yX1_find wsX1_find) := goodIn_app (goodIn_of _ (by decide +kernel)) ggX7_explains_X1_find
theorem dX7_explains_0 : decode cX7_explains 0 = .ok (.iload_n 2, 1) := by decide +kernel
theorem dX7_explains_1 : decode cX7_explains 1 = .ok (.iconst 0, 1) := by decide +kernel
theorem dX7_explains_2 : decode cX7_explains 2 = .ok (.iconst 1, 1) := by decide +kernel
theorem dX7_explains_3 : decode cX7_explains 3 = .ok (.invokestatic 58, 3) := by decide +kernel
theorem dX7_explains_6 : decode cX7_explains 6 = .ok (.ifCond .ne 6, 3) := by decide +kernel
theorem dX7_explains_9 : decode cX7_explains 9 = .ok (.ldc 57, 2) := by decide +kernel
theorem dX7_explains_11 : decode cX7_explains 11 = .ok (.ireturn, 1) := by decide +kernel
theorem dX7_explains_12 : decode cX7_explains 12 = .ok (.aload_n 0, 1) := by decide +kernel
theorem dX7_explains_13 : decode cX7_explains 13 = .ok (.getfield 29, 3) := by decide +kernel
theorem dX7_explains_16 : decode cX7_explains 16 = .ok (.aload_n 0, 1) := by decide +kernel
theorem dX7_explains_17 : decode cX7_explains 17 = .ok (.getfield 10, 3) := by decide +kernel
theorem dX7_explains_20 : decode cX7_explains 20 = .ok (.aload_n 0, 1) := by decide +kernel
theorem dX7_explains_21 : decode cX7_explains 21 = .ok (.getfield 16, 3) := by decide +kernel
theorem dX7_explains_24 : decode cX7_explains 24 = .ok (.invokevirtual 185, 3) := by decide +kernel
theorem dX7_explains_27 : decode cX7_explains 27 = .ok (.iload_n 1, 1) := by decide +kernel
theorem dX7_explains_28 : decode cX7_explains 28 = .ok (.iconst 0, 1) := by decide +kernel
theorem dX7_explains_29 : decode cX7_explains 29 = .ok (.aload_n 0, 1) := by decide +kernel
theorem dX7_explains_30 : decode cX7_explains 30 = .ok (.getfield 29, 3) := by decide +kernel
theorem dX7_explains_33 : decode cX7_explains 33 = .ok (.getfield 189, 3) := by decide +kernel
theorem dX7_explains_36 : decode cX7_explains 36 = .ok (.iconst 1, 1) := by decide +kernel
theorem dX7_explains_37 : decode cX7_explains 37 = .ok (.isub, 1) := by decide +kernel
theorem dX7_explains_38 : decode cX7_explains 38 = .ok (.invokestatic 58, 3) := by decide +kernel
theorem dX7_explains_41 : decode cX7_explains 41 = .ok (.ifCond .ne 6, 3) := by decide +kernel
theorem dX7_explains_44 : decode cX7_explains 44 = .ok (.ldc 56, 2) := by decide +kernel
theorem dX7_explains_46 : decode cX7_explains 46 = .ok (.ireturn, 1) := by decide +kernel
theorem dX7_explains_47 : decode cX7_explains 47 = .ok (.iload_n 2, 1) := by decide +kernel
theorem dX7_explains_48 : decode cX7_explains 48 = .ok (.ifCond .ne 15, 3) := by decide +kernel
theorem dX7_explains_51 : decode cX7_explains 51 = .ok (.aload_n 0, 1) := by decide +kernel
theorem dX7_explains_52 : decode cX7_explains 52 = .ok (.getfield 29, 3) := by decide +kernel
theorem dX7_explains_55 : decode cX7_explains 55 = .ok (.getfield 192, 3) := by decide +kernel
theorem dX7_explains_58 : decode cX7_explains 58 = .ok (.iload_n 1, 1) := by decide +kernel
theorem dX7_explains_59 : decode cX7_explains 59 = .ok (.iaload, 1) := by decide +kernel
theorem dX7_explains_60 : decode cX7_explains 60 = .ok (.goto 12, 3) := by decide +kernel
theorem dX7_explains_63 : decode cX7_explains 63 = .ok (.aload_n 0, 1) := by decide +kernel
theorem dX7_explains_64 : decode cX7_explains 64 = .ok (.getfield 29, 3) := by decide +kernel
theorem dX7_explains_67 : decode cX7_explains 67 = .ok (.getfield 195, 3) := by decide +kernel
theorem dX7_explains_70 : decode cX7_explains 70 = .ok (.iload_n 1, 1) := by decide +kernel
theorem dX7_explains_71 : decode cX7_explains 71 = .ok (.iaload, 1) := by decide +kernel
theorem dX7_explains_72 : decode cX7_explains 72 = .ok (.ireturn, 1) := by decide +kernel
set_option maxRecDepth 20000 in
theorem ggX7_next_X1_find : GoodIn wsX7_next wsX1_find := goodIn_r _ [12, 13, 14, 15, 16, 17, 18, 19, 20, 21, 22, 23, 24, 11, 25, 26, 27, 28, 29, 30, 31, 32, 33, 34, 35, 36, 37, 38, 39, 40, 41, 42, 43, 44, 45, 46, 47, 48, 49, 50, 51, 52, 53, 54, 55, 56, 57, 58, 59, 60, 61, 62, 63, 64, 65, 85, 86, 87, 88, 101, 102, 103, 89, 90, 91, 92, 93, 94, 95, 96, 97, 98, 99, 100, 104, 105, 106, 107, 108, 109] (by decide +kernel) (by decide +kernel)
set_option maxRecDepth 20000 in
theorem gX7_next_X1_find : GoodIn wsX7_next (wsV RX7 185 RX1 yX1_find wsX1_find) := goodIn_app (goodIn_of _ (by decide +kernel)) ggX7_next_X1_find
set_option maxRecDepth 20000 in
theorem ggX7_next_Jx4a65c_size_8abf5 : GoodIn wsX7_next wsJx4a65c_size_8abf5 := goodIn_r _ [21, 22, 101, 102, 103] (by decide +kernel) (by decide +kernel)
set_option maxRecDepth 20000 in
theorem gX7_next_Jx4a65c_size_8abf5 : GoodIn wsX7_next (wsV RX7 62 RJx4a65c yJx4a65c_size_8abf5 wsJx4a65c_size_8abf5) := goodIn_app (goodIn_of _ (by decide +kernel)) ggX7_next_Jx4a65c_size_8abf5
set_option maxRecDepth 20000 in
theorem ggX7_next_Jx4a65c_get_915e3 : GoodIn wsX7_next wsJx4a65c_get_915e3 := goodIn_r _ [40, 22, 41, 42, 43, 44, 45, 46, 47, 48, 49, 50, 51, 20, 52, 53, 101, 102, 103] (by decide +kernel) (by decide +kernel)
set_option maxRecDepth 20000 in
theorem gX7_next_Jx4a65c_get_915e3 : GoodIn wsX7_next (wsV RX7 99 RJx4a65c yJx4a65c_get_915e3 wsJx4a65c_get_915e3) := goodIn_app (goodIn_of _ (by decide +kernel)) ggX7_next_Jx4a65c_get_915e3
set_option maxRecDepth 20000 in
theorem ggX7_next_X1_unlikePairs : GoodIn wsX7_next wsX1_unlikePairs := goodIn_r _ [71, 72, 13, 15, 16, 73, 74, 75, 76, 61, 62, 63, 57, 64, 65, 54, 55, 56, 58, 59, 60, 31, 32, 33, 85, 86, 87, 88, 104, 105, 106, 107, 108, 109] (by decide +kernel) (by decide +kernel)
set_option maxRecDepth 20000 in
theorem gX7_next_X1_unlikePairs : GoodIn wsX7_next (wsV RX7 198 RX1 yX1_unlikePairs wsX1_unlikePairs) := goodIn_app (goodIn_of _ (by decide +kernel)) ggX7_next_X1_unlikePairs
theorem dX7_next_0 : decode cX7_next 0 = .ok (.aload_n 0, 1) := by decide +kernel
theorem dX7_next_1 : decode cX7_next 1 = .ok (.getfield 29, 3) := by decide +kernel
theorem dX7_next_4 : decode cX7_next 4 = .ok (.aload_n 0, 1) := by decide +kernel
theorem dX7_next_5 : decode cX7_next 5 = .ok (.getfield 10, 3) := by decide +kernel
theorem dX7_next_8 : decode cX7_next 8 = .ok (.aload_n 0, 1) := by decide +kernel
theorem dX7_next_9 : decode cX7_next 9 = .ok (.getfield 16, 3) := by decide +kernel
theorem dX7_next_12 : decode cX7_next 12 = .ok (.invokevirtual 185, 3) := by decide +kernel
theorem dX7_next_15 : decode cX7_next 15 = .ok (.aload_n 0, 1) := by decide +kernel
theorem dX7_next_16 : decode cX7_next 16 = .ok (.getfield 29, 3) := by decide +kernel
theorem dX7_next_19 : decode cX7_next 19 = .ok (.getfield 189, 3) := by decide +kernel
theorem dX7_next_22 : decode cX7_next 22 = .ok (.iconst 2, 1) := by decide +kernel
theorem dX7_next_23 : decode cX7_next 23 = .ok (.if_icmp .ge 6, 3) := by decide +kernel
theorem dX7_next_26 : decode cX7_next 26 = .ok (.ldc 56, 2) := by decide +kernel
theorem dX7_next_28 : decode cX7_next 28 = .ok (.ireturn, 1) := by decide +kernel
theorem dX7_next_29 : decode cX7_next 29 = .ok (.ldc 56, 2) := by decide +kernel
theorem dX7_next_31 : decode cX7_next 31 = .ok (.istore_n 1, 1) := by decide +kernel
theorem dX7_next_32 : decode cX7_next 32 = .ok (.iconst (-1), 1) := by decide +kernel
theorem dX7_next_33 : decode cX7_next 33 = .ok (.istore_n 2, 1) := by decide +kernel
theorem dX7_next_34 : decode cX7_next 34 = .ok (.iconst 0, 1) := by decide +kernel
theorem dX7_next_35 : decode cX7_next 35 = .ok (.istore_n 3, 1) := by decide +kernel
theorem dX7_next_36 : decode cX7_next 36 = .ok (.iload_n 3, 1) := by decide +kernel
theorem dX7_next_37 : decode cX7_next 37 = .ok (.aload_n 0, 1) := by decide +kernel
theorem dX7_next_38 : decode cX7_next 38 = .ok (.getfield 16, 3) := by decide +kernel
theorem dX7_next_41 : decode cX7_next 41 = .ok (.invokevirtual 62, 3) := by decide +kernel
theorem dX7_next_44 : decode cX7_next 44 = .ok (.if_icmp .ge 43, 3) := by decide +kernel
theorem dX7_next_47 : decode cX7_next 47 = .ok (.aload_n 0, 1) := by decide +kernel
theorem dX7_next_48 : decode cX7_next 48 = .ok (.getfield 29, 3) := by decide +kernel
theorem dX7_next_51 : decode cX7_next 51 = .ok (.aload_n 0, 1) := by decide +kernel
theorem dX7_next_52 : decode cX7_next 52 = .ok (.getfield 16, 3) := by decide +kernel
theorem dX7_next_55 : decode cX7_next 55 = .ok (.iload_n 3, 1) := by decide +kernel
theorem dX7_next_56 : decode cX7_next 56 = .ok (.invokevirtual 99, 3) := by decide +kernel
theorem dX7_next_59 : decode cX7_next 59 = .ok (.checkcast 86, 3) := by decide +kernel
theorem dX7_next_62 : decode cX7_next 62 = .ok (.getfield 152, 3) := by decide +kernel
theorem dX7_next_65 : decode cX7_next 65 = .ok (.invokevirtual 198, 3) := by decide +kernel
theorem dX7_next_68 : decode cX7_next 68 = .ok (.istore 4, 2) := by decide +kernel
theorem dX7_next_70 : decode cX7_next 70 = .ok (.iload 4, 2) := by decide +kernel
theorem dX7_next_72 : decode cX7_next 72 = .ok (.iload_n 2, 1) := by decide +kernel
theorem dX7_next_73 : decode cX7_next 73 = .ok (.if_icmp .le 8, 3) := by decide +kernel
theorem dX7_next_76 : decode cX7_next 76 = .ok (.iload 4, 2) := by decide +kernel
theorem dX7_next_78 : decode cX7_next 78 = .ok (.istore_n 2, 1) := by decide +kernel
theorem dX7_next_79 : decode cX7_next 79 = .ok (.iload_n 3, 1) := by decide +kernel
theorem dX7_next_80 : decode cX7_next 80 = .ok (.istore_n 1, 1) := by decide +kernel
theorem dX7_next_81 : decode cX7_next 81 = .ok (.iinc 3 1, 3) := by decide +kernel
theorem dX7_next_84 : decode cX7_next 84 = .ok (.goto (-48), 3) := by decide +kernel
theorem dX7_next_87 : decode cX7_next 87 = .ok (.iload_n 1, 1) := by decide +kernel
theorem dX7_next_88 : decode cX7_next 88 = .ok (.ireturn, 1) := by decide +kernel
set_option maxRecDepth 20000 in
theorem ggX7_feed_X7_within : GoodIn wsX7_feed wsX7_within := goodIn_r _ [8] (by decide +kernel) (by decide +kernel)
set_option maxRecDepth 20000 in
theorem gX7_feed_X7_within : GoodIn wsX7_feed (va_wsS RX7 58 yX7_within wsX7_within) := goodIn_app (goodIn_of _ (by decide +kernel)) ggX7_feed_X7_within
set_option maxRecDepth 20000 in
theorem ggX7_feed_X5_append : GoodIn wsX7_feed wsX5_append := goodIn_r _ [13, 14, 15, 24, 25, 26, 27, 28] (by decide +kernel) (by decide +kernel)
set_option maxRecDepth 20000 in
theorem gX7_feed_X5_append : GoodIn wsX7_feed (wsV RX7 207 RX5 yX5_append wsX5_append) := goodIn_app (goodIn_of _ (by decide +kernel)) ggX7_feed_X5_append
theorem dX7_feed_0 : decode cX7_feed 0 = .ok (.iload_n 3, 1) := by decide +kernel
theorem dX7_feed_1 : decode cX7_feed 1 = .ok (.iconst 1, 1) := by decide +kernel
theorem dX7_feed_2 : decode cX7_feed 2 = .ok (.bipush 8, 2) := by decide +kernel
theorem dX7_feed_4 : decode cX7_feed 4 = .ok (.invokestatic 58, 3) := by decide +kernel
theorem dX7_feed_7 : decode cX7_feed 7 = .ok (.ifCond .ne 6, 3) := by decide +kernel
theorem dX7_feed_10 : decode cX7_feed 10 = .ok (.ldc 57, 2) := by decide +kernel
theorem dX7_feed_12 : decode cX7_feed 12 = .ok (.ireturn, 1) := by decide +kernel
theorem dX7_feed_13 : decode cX7_feed 13 = .ok (.aload_n 0, 1) := by decide +kernel
theorem dX7_feed_14 : decode cX7_feed 14 = .ok (.getfield 44, 3) := by decide +kernel
theorem dX7_feed_17 : decode cX7_feed 17 = .ok (.getfield 202, 3) := by decide +kernel
theorem dX7_feed_20 : decode cX7_feed 20 = .ok (.iload_n 3, 1) := by decide +kernel
theorem dX7_feed_21 : decode cX7_feed 21 = .ok (.iadd, 1) := by decide +kernel
theorem dX7_feed_22 : decode cX7_feed 22 = .ok (.sipush 300, 3) := by decide +kernel
theorem dX7_feed_25 : decode cX7_feed 25 = .ok (.if_icmp .le 6, 3) := by decide +kernel
theorem dX7_feed_28 : decode cX7_feed 28 = .ok (.ldc 66, 2) := by decide +kernel
theorem dX7_feed_30 : decode cX7_feed 30 = .ok (.ireturn, 1) := by decide +kernel
theorem dX7_feed_31 : decode cX7_feed 31 = .ok (.aload_n 0, 1) := by decide +kernel
theorem dX7_feed_32 : decode cX7_feed 32 = .ok (.getfield 44, 3) := by decide +kernel
theorem dX7_feed_35 : decode cX7_feed 35 = .ok (.lload_n 1, 1) := by decide +kernel
theorem dX7_feed_36 : decode cX7_feed 36 = .ok (.iload_n 3, 1) := by decide +kernel
theorem dX7_feed_37 : decode cX7_feed 37 = .ok (.invokevirtual 207, 3) := by decide +kernel
theorem dX7_feed_40 : decode cX7_feed 40 = .ok (.aload_n 0, 1) := by decide +kernel
theorem dX7_feed_41 : decode cX7_feed 41 = .ok (.getfield 44, 3) := by decide +kernel
theorem dX7_feed_44 : decode cX7_feed 44 = .ok (.getfield 202, 3) := by decide +kernel
theorem dX7_feed_47 : decode cX7_feed 47 = .ok (.ireturn, 1) := by decide +kernel
set_option maxRecDepth 20000 in
theorem ggX7_contracts_Jx4a65c_size_8abf5 : GoodIn wsX7_contracts wsJx4a65c_size_8abf5 := goodIn_r _ [12, 13, 193, 194, 195] (by decide +kernel) (by decide +kernel)
set_option maxRecDepth 20000 in
theorem gX7_contracts_Jx4a65c_size_8abf5 : GoodIn wsX7_contracts (wsV RX7 62 RJx4a65c yJx4a65c_size_8abf5 wsJx4a65c_size_8abf5) := goodIn_app (goodIn_of _ (by decide +kernel)) ggX7_contracts_Jx4a65c_size_8abf5
set_option maxRecDepth 20000 in
theorem ggX7_contracts_X4_readTape : GoodIn wsX7_contracts wsX4_readTape := goodIn_r _ [18, 19, 20, 21, 22, 23, 24, 25, 26, 27, 28, 29, 30, 31, 32, 33, 34, 35, 36, 37, 38, 39, 40, 41, 42, 43, 44, 45, 46, 47, 48, 49, 50, 51, 52, 53, 54, 55, 56, 57, 58, 59, 60, 17, 61, 62, 63, 64, 65, 66, 67, 68, 69, 70, 71, 72, 73, 74, 75, 76, 77, 78, 79, 80, 81, 82, 83, 84, 85, 86, 87, 88, 89, 90, 91, 92, 93, 94, 95, 96, 97, 98, 99, 100, 101, 102, 103, 104, 105, 106, 107, 108, 109, 110, 111, 112, 113, 114, 115, 116, 117, 118, 119, 120, 121, 122, 123, 124, 125, 126, 127, 128, 129, 130, 131, 132, 133, 134, 135, 136, 137, 138, 139, 140, 141, 142, 143, 186, 187, 188, 189, 190, 191, 192, 181, 182, 183, 184, 185] (by decide +kernel) (by decide +kernel)
set_option maxRecDepth 20000 in
theorem gX7_contracts_X4_readTape : GoodIn wsX7_contracts (wsV RX7 211 RX4 yX4_readTape wsX4_readTape) := goodIn_app (goodIn_of _ (by decide +kernel)) ggX7_contracts_X4_readTape
set_option maxRecDepth 20000 in
theorem ggX7_contracts_X4_putInForce : GoodIn wsX7_contracts wsX4_putInForce := goodIn_r _ [147, 19, 148, 62, 63, 149, 9, 10, 11, 12, 13, 150, 151, 152, 153, 154, 155, 156, 157, 158, 97, 98, 99, 159, 160, 161, 162, 163, 164, 165, 166, 167, 168, 169, 170, 171, 172, 186, 187, 188, 189, 190, 191, 192, 193, 194, 195, 196, 197, 198, 199, 200, 201, 202, 203, 204, 205, 206, 207] (by decide +kernel) (by decide +kernel)
set_option maxRecDepth 20000 in
theorem gX7_contracts_X4_putInForce : GoodIn wsX7_contracts (wsV RX7 219 RX4 yX4_putInForce wsX4_putInForce) := goodIn_app (goodIn_of _ (by decide +kernel)) ggX7_contracts_X4_putInForce
theorem dX7_contracts_0 : decode cX7_contracts 0 = .ok (.aload_n 0, 1) := by decide +kernel
theorem dX7_contracts_1 : decode cX7_contracts 1 = .ok (.getfield 36, 3) := by decide +kernel
theorem dX7_contracts_4 : decode cX7_contracts 4 = .ok (.aload_n 0, 1) := by decide +kernel
theorem dX7_contracts_5 : decode cX7_contracts 5 = .ok (.getfield 16, 3) := by decide +kernel
theorem dX7_contracts_8 : decode cX7_contracts 8 = .ok (.invokevirtual 62, 3) := by decide +kernel
theorem dX7_contracts_11 : decode cX7_contracts 11 = .ok (.invokevirtual 211, 3) := by decide +kernel
theorem dX7_contracts_14 : decode cX7_contracts 14 = .ok (.istore_n 1, 1) := by decide +kernel
theorem dX7_contracts_15 : decode cX7_contracts 15 = .ok (.aload_n 0, 1) := by decide +kernel
theorem dX7_contracts_16 : decode cX7_contracts 16 = .ok (.getfield 44, 3) := by decide +kernel
theorem dX7_contracts_19 : decode cX7_contracts 19 = .ok (.iconst 0, 1) := by decide +kernel
theorem dX7_contracts_20 : decode cX7_contracts 20 = .ok (.putfield 202, 3) := by decide +kernel
theorem dX7_contracts_23 : decode cX7_contracts 23 = .ok (.iload_n 1, 1) := by decide +kernel
theorem dX7_contracts_24 : decode cX7_contracts 24 = .ok (.ifCond .ne 14, 3) := by decide +kernel
theorem dX7_contracts_27 : decode cX7_contracts 27 = .ok (.ldc 215, 2) := by decide +kernel
theorem dX7_contracts_29 : decode cX7_contracts 29 = .ok (.aload_n 0, 1) := by decide +kernel
theorem dX7_contracts_30 : decode cX7_contracts 30 = .ok (.getfield 36, 3) := by decide +kernel
theorem dX7_contracts_33 : decode cX7_contracts 33 = .ok (.getfield 216, 3) := by decide +kernel
theorem dX7_contracts_36 : decode cX7_contracts 36 = .ok (.isub, 1) := by decide +kernel
theorem dX7_contracts_37 : decode cX7_contracts 37 = .ok (.ireturn, 1) := by decide +kernel
theorem dX7_contracts_38 : decode cX7_contracts 38 = .ok (.aload_n 0, 1) := by decide +kernel
theorem dX7_contracts_39 : decode cX7_contracts 39 = .ok (.getfield 36, 3) := by decide +kernel
theorem dX7_contracts_42 : decode cX7_contracts 42 = .ok (.aload_n 0, 1) := by decide +kernel
theorem dX7_contracts_43 : decode cX7_contracts 43 = .ok (.getfield 16, 3) := by decide +kernel
theorem dX7_contracts_46 : decode cX7_contracts 46 = .ok (.invokevirtual 219, 3) := by decide +kernel
theorem dX7_contracts_49 : decode cX7_contracts 49 = .ok (.aload_n 0, 1) := by decide +kernel
theorem dX7_contracts_50 : decode cX7_contracts 50 = .ok (.getfield 36, 3) := by decide +kernel
theorem dX7_contracts_53 : decode cX7_contracts 53 = .ok (.getfield 223, 3) := by decide +kernel
theorem dX7_contracts_56 : decode cX7_contracts 56 = .ok (.ireturn, 1) := by decide +kernel
theorem dX7_fault_0 : decode cX7_fault 0 = .ok (.aload_n 0, 1) := by decide +kernel
theorem dX7_fault_1 : decode cX7_fault 1 = .ok (.getfield 36, 3) := by decide +kernel
theorem dX7_fault_4 : decode cX7_fault 4 = .ok (.getfield 226, 3) := by decide +kernel
theorem dX7_fault_7 : decode cX7_fault 7 = .ok (.ireturn, 1) := by decide +kernel
set_option maxRecDepth 20000 in
theorem ggX7_owes_X7_dialAt : GoodIn wsX7_owes wsX7_dialAt := goodIn_r _ [7, 8, 9, 10, 11, 12, 13, 14, 15, 16, 17, 6, 18, 19, 20, 21, 22, 23, 24, 25, 26, 27, 28, 29, 30, 31, 32, 33, 34, 35, 48, 49, 50, 51, 52, 53, 54, 55, 56, 57, 58] (by decide +kernel) (by decide +kernel)
set_option maxRecDepth 20000 in
theorem gX7_owes_X7_dialAt : GoodIn wsX7_owes (wsV RX7 133 RX7 yX7_dialAt wsX7_dialAt) := goodIn_app (goodIn_of _ (by decide +kernel)) ggX7_owes_X7_dialAt
theorem dX7_owes_0 : decode cX7_owes 0 = .ok (.aload_n 0, 1) := by decide +kernel
theorem dX7_owes_1 : decode cX7_owes 1 = .ok (.iload_n 1, 1) := by decide +kernel
theorem dX7_owes_2 : decode cX7_owes 2 = .ok (.invokevirtual 133, 3) := by decide +kernel
theorem dX7_owes_5 : decode cX7_owes 5 = .ok (.astore_n 2, 1) := by decide +kernel
theorem dX7_owes_6 : decode cX7_owes 6 = .ok (.aload_n 2, 1) := by decide +kernel
theorem dX7_owes_7 : decode cX7_owes 7 = .ok (.ifnonnull 8, 3) := by decide +kernel
theorem dX7_owes_10 : decode cX7_owes 10 = .ok (.ldc 57, 2) := by decide +kernel
theorem dX7_owes_12 : decode cX7_owes 12 = .ok (.goto 7, 3) := by decide +kernel
theorem dX7_owes_15 : decode cX7_owes 15 = .ok (.aload_n 2, 1) := by decide +kernel
theorem dX7_owes_16 : decode cX7_owes 16 = .ok (.getfield 229, 3) := by decide +kernel
theorem dX7_owes_19 : decode cX7_owes 19 = .ok (.ireturn, 1) := by decide +kernel
set_option maxRecDepth 20000 in
theorem ggX7_kind_X7_dialAt : GoodIn wsX7_kind wsX7_dialAt := goodIn_r _ [6, 7, 8, 9, 10, 11, 12, 13, 14, 15, 16, 5, 17, 18, 19, 20, 21, 22, 23, 24, 25, 26, 27, 28, 29, 30, 31, 32, 33, 34, 42, 43, 44, 45, 46, 47, 48, 49, 50, 51, 52] (by decide +kernel) (by decide +kernel)
set_option maxRecDepth 20000 in
theorem gX7_kind_X7_dialAt : GoodIn wsX7_kind (wsV RX7 133 RX7 yX7_dialAt wsX7_dialAt) := goodIn_app (goodIn_of _ (by decide +kernel)) ggX7_kind_X7_dialAt
set_option maxRecDepth 20000 in
theorem ggX7_kind_X0_toldKind : GoodIn wsX7_kind wsX0_toldKind := goodIn_r _ [39, 40, 41, 53, 54, 55, 56, 57, 58, 59, 60, 61, 62, 63, 64] (by decide +kernel) (by decide +kernel)
set_option maxRecDepth 20000 in
theorem gX7_kind_X0_toldKind : GoodIn wsX7_kind (wsV RX7 173 RX0 yX0_toldKind wsX0_toldKind) := goodIn_app (goodIn_of _ (by decide +kernel)) ggX7_kind_X0_toldKind
theorem dX7_kind_0 : decode cX7_kind 0 = .ok (.aload_n 0, 1) := by decide +kernel
theorem dX7_kind_1 : decode cX7_kind 1 = .ok (.iload_n 1, 1) := by decide +kernel
theorem dX7_kind_2 : decode cX7_kind 2 = .ok (.invokevirtual 133, 3) := by decide +kernel
theorem dX7_kind_5 : decode cX7_kind 5 = .ok (.astore_n 2, 1) := by decide +kernel
theorem dX7_kind_6 : decode cX7_kind 6 = .ok (.aload_n 2, 1) := by decide +kernel
theorem dX7_kind_7 : decode cX7_kind 7 = .ok (.ifnonnull 8, 3) := by decide +kernel
theorem dX7_kind_10 : decode cX7_kind 10 = .ok (.ldc 57, 2) := by decide +kernel
theorem dX7_kind_12 : decode cX7_kind 12 = .ok (.goto 7, 3) := by decide +kernel
theorem dX7_kind_15 : decode cX7_kind 15 = .ok (.aload_n 2, 1) := by decide +kernel
theorem dX7_kind_16 : decode cX7_kind 16 = .ok (.invokevirtual 173, 3) := by decide +kernel
theorem dX7_kind_19 : decode cX7_kind 19 = .ok (.ireturn, 1) := by decide +kernel
set_option maxRecDepth 20000 in
theorem ggX7_as_X7_dialAt : GoodIn wsX7_as wsX7_dialAt := goodIn_r _ [8, 9, 10, 11, 12, 13, 14, 15, 16, 17, 18, 7, 19, 20, 21, 22, 23, 24, 25, 26, 27, 28, 29, 30, 31, 32, 33, 34, 35, 36, 59, 60, 61, 62, 63, 64, 65, 66, 67, 68, 69] (by decide +kernel) (by decide +kernel)
set_option maxRecDepth 20000 in
theorem gX7_as_X7_dialAt : GoodIn wsX7_as (wsV RX7 133 RX7 yX7_dialAt wsX7_dialAt) := goodIn_app (goodIn_of _ (by decide +kernel)) ggX7_as_X7_dialAt
set_option maxRecDepth 20000 in
theorem ggX7_as_X7_within : GoodIn wsX7_as wsX7_within := goodIn_r _ [19] (by decide +kernel) (by decide +kernel)
set_option maxRecDepth 20000 in
theorem gX7_as_X7_within : GoodIn wsX7_as (va_wsS RX7 58 yX7_within wsX7_within) := goodIn_app (goodIn_of _ (by decide +kernel)) ggX7_as_X7_within
set_option maxRecDepth 20000 in
theorem ggX7_as_X0_toldKind : GoodIn wsX7_as wsX0_toldKind := goodIn_r _ [41, 42, 43, 47, 48, 49, 50, 51, 52, 53, 54, 55, 56, 57, 58] (by decide +kernel) (by decide +kernel)
set_option maxRecDepth 20000 in
theorem gX7_as_X0_toldKind : GoodIn wsX7_as (wsV RX7 173 RX0 yX0_toldKind wsX0_toldKind) := goodIn_app (goodIn_of _ (by decide +kernel)) ggX7_as_X0_toldKind
set_option maxRecDepth 20000 in
theorem ggX7_as_X7_isOfKind : GoodIn wsX7_as wsX7_isOfKind := goodIn_r _ [46] (by decide +kernel) (by decide +kernel)
set_option maxRecDepth 20000 in
theorem gX7_as_X7_isOfKind : GoodIn wsX7_as (va_wsS RX7 176 yX7_isOfKind wsX7_isOfKind) := goodIn_app (goodIn_of _ (by decide +kernel)) ggX7_as_X7_isOfKind
theorem dX7_as_0 : decode cX7_as 0 = .ok (.aload_n 0, 1) := by decide +kernel
theorem dX7_as_1 : decode cX7_as 1 = .ok (.iload_n 1, 1) := by decide +kernel
theorem dX7_as_2 : decode cX7_as 2 = .ok (.invokevirtual 133, 3) := by decide +kernel
theorem dX7_as_5 : decode cX7_as 5 = .ok (.astore_n 3, 1) := by decide +kernel
theorem dX7_as_6 : decode cX7_as 6 = .ok (.aload_n 3, 1) := by decide +kernel
theorem dX7_as_7 : decode cX7_as 7 = .ok (.ifnull 12, 3) := by decide +kernel
theorem dX7_as_10 : decode cX7_as 10 = .ok (.iload_n 2, 1) := by decide +kernel
theorem dX7_as_11 : decode cX7_as 11 = .ok (.iconst 0, 1) := by decide +kernel
theorem dX7_as_12 : decode cX7_as 12 = .ok (.iconst 3, 1) := by decide +kernel
theorem dX7_as_13 : decode cX7_as 13 = .ok (.invokestatic 58, 3) := by decide +kernel
theorem dX7_as_16 : decode cX7_as 16 = .ok (.ifCond .ne 6, 3) := by decide +kernel
theorem dX7_as_19 : decode cX7_as 19 = .ok (.ldc 57, 2) := by decide +kernel
theorem dX7_as_21 : decode cX7_as 21 = .ok (.ireturn, 1) := by decide +kernel
theorem dX7_as_22 : decode cX7_as 22 = .ok (.aload_n 3, 1) := by decide +kernel
theorem dX7_as_23 : decode cX7_as 23 = .ok (.invokevirtual 173, 3) := by decide +kernel
theorem dX7_as_26 : decode cX7_as 26 = .ok (.iload_n 2, 1) := by decide +kernel
theorem dX7_as_27 : decode cX7_as 27 = .ok (.invokestatic 176, 3) := by decide +kernel
theorem dX7_as_30 : decode cX7_as 30 = .ok (.ifCond .eq 10, 3) := by decide +kernel
theorem dX7_as_33 : decode cX7_as 33 = .ok (.aload_n 3, 1) := by decide +kernel
theorem dX7_as_34 : decode cX7_as 34 = .ok (.getfield 140, 3) := by decide +kernel
theorem dX7_as_37 : decode cX7_as 37 = .ok (.goto 5, 3) := by decide +kernel
theorem dX7_as_40 : decode cX7_as 40 = .ok (.ldc 180, 2) := by decide +kernel
theorem dX7_as_42 : decode cX7_as 42 = .ok (.ireturn, 1) := by decide +kernel
set_option maxRecDepth 20000 in
theorem ggX7_ask_X7_dialAt : GoodIn wsX7_ask wsX7_dialAt := goodIn_r _ [8, 9, 10, 11, 12, 13, 14, 15, 16, 17, 18, 7, 19, 20, 21, 22, 23, 24, 25, 26, 27, 28, 29, 30, 31, 32, 33, 34, 35, 36, 89, 90, 91, 92, 93, 94, 95, 96, 99, 100, 101] (by decide +kernel) (by decide +kernel)
set_option maxRecDepth 20000 in
theorem gX7_ask_X7_dialAt : GoodIn wsX7_ask (wsV RX7 133 RX7 yX7_dialAt wsX7_dialAt) := goodIn_app (goodIn_of _ (by decide +kernel)) ggX7_ask_X7_dialAt
set_option maxRecDepth 20000 in
theorem ggX7_ask_X7_within : GoodIn wsX7_ask wsX7_within := goodIn_r _ [19] (by decide +kernel) (by decide +kernel)
set_option maxRecDepth 20000 in
theorem gX7_ask_X7_within : GoodIn wsX7_ask (va_wsS RX7 58 yX7_within wsX7_within) := goodIn_app (goodIn_of _ (by decide +kernel)) ggX7_ask_X7_within
set_option maxRecDepth 20000 in
theorem ggX7_ask_X7_weightOf : GoodIn wsX7_ask wsX7_weightOf := goodIn_r _ [40, 41, 42, 43, 44, 45, 46, 47, 48, 49, 50, 7, 51, 2, 52, 53, 54, 55, 56, 57, 58, 59, 60, 61, 62, 63, 64, 65, 66, 67, 68, 69, 70, 71, 102, 103, 104, 105, 106, 107, 108, 109, 110, 111, 112, 113, 89, 90, 91, 92, 93, 94, 95, 96, 97, 98] (by decide +kernel) (by decide +kernel)
set_option maxRecDepth 20000 in
theorem gX7_ask_X7_weightOf : GoodIn wsX7_ask (wsV RX7 233 RX7 yX7_weightOf wsX7_weightOf) := goodIn_app (goodIn_of _ (by decide +kernel)) ggX7_ask_X7_weightOf
set_option maxRecDepth 20000 in
theorem ggX7_ask_X7_markOf : GoodIn wsX7_ask wsX7_markOf := goodIn_r _ [75, 41, 42, 43, 44, 45, 46, 47, 76, 77, 78, 7, 79, 2, 52, 53, 54, 55, 56, 57, 58, 80, 81, 82, 83, 84, 37, 38, 39, 40, 48, 49, 50, 51, 59, 60, 61, 62, 63, 64, 65, 66, 67, 68, 69, 70, 71, 85, 86, 87, 88, 102, 103, 104, 105, 106, 107, 108, 109, 110, 111, 112, 113, 89, 90, 91, 92, 93, 94, 95, 96, 97, 98] (by decide +kernel) (by decide +kernel)
set_option maxRecDepth 20000 in
theorem gX7_ask_X7_markOf : GoodIn wsX7_ask (wsV RX7 237 RX7 yX7_markOf wsX7_markOf) := goodIn_app (goodIn_of _ (by decide +kernel)) ggX7_ask_X7_markOf
theorem dX7_ask_0 : decode cX7_ask 0 = .ok (.aload_n 0, 1) := by decide +kernel
theorem dX7_ask_1 : decode cX7_ask 1 = .ok (.iload_n 1, 1) := by decide +kernel
theorem dX7_ask_2 : decode cX7_ask 2 = .ok (.invokevirtual 133, 3) := by decide +kernel
theorem dX7_ask_5 : decode cX7_ask 5 = .ok (.astore_n 3, 1) := by decide +kernel
theorem dX7_ask_6 : decode cX7_ask 6 = .ok (.aload_n 3, 1) := by decide +kernel
theorem dX7_ask_7 : decode cX7_ask 7 = .ok (.ifnull 12, 3) := by decide +kernel
theorem dX7_ask_10 : decode cX7_ask 10 = .ok (.iload_n 2, 1) := by decide +kernel
theorem dX7_ask_11 : decode cX7_ask 11 = .ok (.iconst 0, 1) := by decide +kernel
theorem dX7_ask_12 : decode cX7_ask 12 = .ok (.iconst 1, 1) := by decide +kernel
theorem dX7_ask_13 : decode cX7_ask 13 = .ok (.invokestatic 58, 3) := by decide +kernel
theorem dX7_ask_16 : decode cX7_ask 16 = .ok (.ifCond .ne 6, 3) := by decide +kernel
theorem dX7_ask_19 : decode cX7_ask 19 = .ok (.ldc 57, 2) := by decide +kernel
theorem dX7_ask_21 : decode cX7_ask 21 = .ok (.ireturn, 1) := by decide +kernel
theorem dX7_ask_22 : decode cX7_ask 22 = .ok (.aload_n 0, 1) := by decide +kernel
theorem dX7_ask_23 : decode cX7_ask 23 = .ok (.getfield 48, 3) := by decide +kernel
theorem dX7_ask_26 : decode cX7_ask 26 = .ok (.iconst 0, 1) := by decide +kernel
theorem dX7_ask_27 : decode cX7_ask 27 = .ok (.putfield 232, 3) := by decide +kernel
theorem dX7_ask_30 : decode cX7_ask 30 = .ok (.iload_n 2, 1) := by decide +kernel
theorem dX7_ask_31 : decode cX7_ask 31 = .ok (.ifCond .ne 11, 3) := by decide +kernel
theorem dX7_ask_34 : decode cX7_ask 34 = .ok (.aload_n 0, 1) := by decide +kernel
theorem dX7_ask_35 : decode cX7_ask 35 = .ok (.aload_n 3, 1) := by decide +kernel
theorem dX7_ask_36 : decode cX7_ask 36 = .ok (.invokevirtual 233, 3) := by decide +kernel
theorem dX7_ask_39 : decode cX7_ask 39 = .ok (.goto 8, 3) := by decide +kernel
theorem dX7_ask_42 : decode cX7_ask 42 = .ok (.aload_n 0, 1) := by decide +kernel
theorem dX7_ask_43 : decode cX7_ask 43 = .ok (.aload_n 3, 1) := by decide +kernel
theorem dX7_ask_44 : decode cX7_ask 44 = .ok (.invokevirtual 237, 3) := by decide +kernel
theorem dX7_ask_47 : decode cX7_ask 47 = .ok (.ireturn, 1) := by decide +kernel
set_option maxRecDepth 20000 in
theorem ggX7_trace_X7_within : GoodIn wsX7_trace wsX7_within := goodIn_r _ [8] (by decide +kernel) (by decide +kernel)
set_option maxRecDepth 20000 in
theorem gX7_trace_X7_within : GoodIn wsX7_trace (va_wsS RX7 58 yX7_within wsX7_within) := goodIn_app (goodIn_of _ (by decide +kernel)) ggX7_trace_X7_within
theorem dX7_trace_0 : decode cX7_trace 0 = .ok (.iload_n 1, 1) := by decide +kernel
theorem dX7_trace_1 : decode cX7_trace 1 = .ok (.iconst 0, 1) := by decide +kernel
theorem dX7_trace_2 : decode cX7_trace 2 = .ok (.aload_n 0, 1) := by decide +kernel
theorem dX7_trace_3 : decode cX7_trace 3 = .ok (.getfield 48, 3) := by decide +kernel
theorem dX7_trace_6 : decode cX7_trace 6 = .ok (.getfield 232, 3) := by decide +kernel
theorem dX7_trace_9 : decode cX7_trace 9 = .ok (.iconst 1, 1) := by decide +kernel
theorem dX7_trace_10 : decode cX7_trace 10 = .ok (.isub, 1) := by decide +kernel
theorem dX7_trace_11 : decode cX7_trace 11 = .ok (.invokestatic 58, 3) := by decide +kernel
theorem dX7_trace_14 : decode cX7_trace 14 = .ok (.ifCond .eq 15, 3) := by decide +kernel
theorem dX7_trace_17 : decode cX7_trace 17 = .ok (.aload_n 0, 1) := by decide +kernel
theorem dX7_trace_18 : decode cX7_trace 18 = .ok (.getfield 48, 3) := by decide +kernel
theorem dX7_trace_21 : decode cX7_trace 21 = .ok (.getfield 240, 3) := by decide +kernel
theorem dX7_trace_24 : decode cX7_trace 24 = .ok (.iload_n 1, 1) := by decide +kernel
theorem dX7_trace_25 : decode cX7_trace 25 = .ok (.iaload, 1) := by decide +kernel
theorem dX7_trace_26 : decode cX7_trace 26 = .ok (.goto 5, 3) := by decide +kernel
theorem dX7_trace_29 : decode cX7_trace 29 = .ok (.ldc 56, 2) := by decide +kernel
theorem dX7_trace_31 : decode cX7_trace 31 = .ok (.ireturn, 1) := by decide +kernel
set_option maxRecDepth 20000 in
theorem ggX7_count_Jx4a65c_size_8abf5 : GoodIn wsX7_count wsJx4a65c_size_8abf5 := goodIn_r _ [11, 12, 73, 74, 75] (by decide +kernel) (by decide +kernel)
set_option maxRecDepth 20000 in
theorem gX7_count_Jx4a65c_size_8abf5 : GoodIn wsX7_count (wsV RX7 62 RJx4a65c yJx4a65c_size_8abf5 wsJx4a65c_size_8abf5) := goodIn_app (goodIn_of _ (by decide +kernel)) ggX7_count_Jx4a65c_size_8abf5
set_option maxRecDepth 20000 in
theorem ggX7_count_X7_countOfKind : GoodIn wsX7_count wsX7_countOfKind := goodIn_r _ [17, 2, 18, 7, 8, 9, 10, 11, 12, 19, 20, 21, 22, 23, 24, 25, 26, 27, 28, 29, 30, 31, 32, 33, 34, 35, 36, 37, 38, 39, 40, 41, 42, 43, 44, 16, 45, 60, 61, 62, 63, 64, 65, 66, 67, 73, 74, 75, 76, 77, 78, 79, 80, 81, 82, 83, 84, 85, 86, 87] (by decide +kernel) (by decide +kernel)
set_option maxRecDepth 20000 in
theorem gX7_count_X7_countOfKind : GoodIn wsX7_count (wsV RX7 243 RX7 yX7_countOfKind wsX7_countOfKind) := goodIn_app (goodIn_of _ (by decide +kernel)) ggX7_count_X7_countOfKind
set_option maxRecDepth 20000 in
theorem ggX7_count_X7_countContracts : GoodIn wsX7_count wsX7_countContracts := goodIn_r _ [49, 2, 18, 50, 7, 8, 9, 10, 11, 12, 19, 20, 21, 22, 23, 24, 25, 26, 27, 28, 29, 30, 31, 32, 33, 34, 35, 60, 61, 62, 63, 64, 65, 66, 67, 76, 77, 78, 79, 80, 81, 82, 83, 84, 85, 86, 87, 73, 74, 75] (by decide +kernel) (by decide +kernel)
set_option maxRecDepth 20000 in
theorem gX7_count_X7_countContracts : GoodIn wsX7_count (wsV RX7 247 RX7 yX7_countContracts wsX7_countContracts) := goodIn_app (goodIn_of _ (by decide +kernel)) ggX7_count_X7_countContracts
set_option maxRecDepth 20000 in
theorem ggX7_count_X7_allLates : GoodIn wsX7_count wsX7_allLates := goodIn_r _ [54, 2, 18, 55, 56, 57, 58, 59, 7, 8, 9, 10, 11, 12, 19, 20, 21, 22, 23, 24, 25, 26, 27, 28, 29, 30, 31, 32, 33, 34, 35, 60, 61, 62, 63, 64, 65, 66, 67, 76, 77, 78, 79, 80, 81, 82, 83, 84, 85, 86, 87, 73, 74, 75] (by decide +kernel) (by decide +kernel)
set_option maxRecDepth 20000 in
theorem gX7_count_X7_allLates : GoodIn wsX7_count (wsV RX7 250 RX7 yX7_allLates wsX7_allLates) := goodIn_app (goodIn_of _ (by decide +kernel)) ggX7_count_X7_allLates
theorem dX7_count_0 : decode cX7_count 0 = .ok (.iload_n 1, 1) := by decide +kernel
theorem dX7_count_1 : decode cX7_count 1 = .ok (.tableswitch 98 0 7 #[47, 55, 63, 69, 75, 80, 85, 90], 47) := by decide +kernel
theorem dX7_count_48 : decode cX7_count 48 = .ok (.aload_n 0, 1) := by decide +kernel
theorem dX7_count_49 : decode cX7_count 49 = .ok (.getfield 10, 3) := by decide +kernel
theorem dX7_count_52 : decode cX7_count 52 = .ok (.invokevirtual 62, 3) := by decide +kernel
theorem dX7_count_55 : decode cX7_count 55 = .ok (.ireturn, 1) := by decide +kernel
theorem dX7_count_56 : decode cX7_count 56 = .ok (.aload_n 0, 1) := by decide +kernel
theorem dX7_count_57 : decode cX7_count 57 = .ok (.getfield 16, 3) := by decide +kernel
theorem dX7_count_60 : decode cX7_count 60 = .ok (.invokevirtual 62, 3) := by decide +kernel
theorem dX7_count_63 : decode cX7_count 63 = .ok (.ireturn, 1) := by decide +kernel
theorem dX7_count_64 : decode cX7_count 64 = .ok (.aload_n 0, 1) := by decide +kernel
theorem dX7_count_65 : decode cX7_count 65 = .ok (.iconst 1, 1) := by decide +kernel
theorem dX7_count_66 : decode cX7_count 66 = .ok (.invokevirtual 243, 3) := by decide +kernel
theorem dX7_count_69 : decode cX7_count 69 = .ok (.ireturn, 1) := by decide +kernel
theorem dX7_count_70 : decode cX7_count 70 = .ok (.aload_n 0, 1) := by decide +kernel
theorem dX7_count_71 : decode cX7_count 71 = .ok (.iconst 3, 1) := by decide +kernel
theorem dX7_count_72 : decode cX7_count 72 = .ok (.invokevirtual 243, 3) := by decide +kernel
theorem dX7_count_75 : decode cX7_count 75 = .ok (.ireturn, 1) := by decide +kernel
theorem dX7_count_76 : decode cX7_count 76 = .ok (.aload_n 0, 1) := by decide +kernel
theorem dX7_count_77 : decode cX7_count 77 = .ok (.getfield 107, 3) := by decide +kernel
theorem dX7_count_80 : decode cX7_count 80 = .ok (.ireturn, 1) := by decide +kernel
theorem dX7_count_81 : decode cX7_count 81 = .ok (.aload_n 0, 1) := by decide +kernel
theorem dX7_count_82 : decode cX7_count 82 = .ok (.invokevirtual 247, 3) := by decide +kernel
theorem dX7_count_85 : decode cX7_count 85 = .ok (.ireturn, 1) := by decide +kernel
theorem dX7_count_86 : decode cX7_count 86 = .ok (.aload_n 0, 1) := by decide +kernel
theorem dX7_count_87 : decode cX7_count 87 = .ok (.invokevirtual 250, 3) := by decide +kernel
theorem dX7_count_90 : decode cX7_count 90 = .ok (.ireturn, 1) := by decide +kernel
theorem dX7_count_91 : decode cX7_count 91 = .ok (.aload_n 0, 1) := by decide +kernel
theorem dX7_count_92 : decode cX7_count 92 = .ok (.getfield 44, 3) := by decide +kernel
theorem dX7_count_95 : decode cX7_count 95 = .ok (.getfield 202, 3) := by decide +kernel
theorem dX7_count_98 : decode cX7_count 98 = .ok (.ireturn, 1) := by decide +kernel
theorem dX7_count_99 : decode cX7_count 99 = .ok (.ldc 57, 2) := by decide +kernel
theorem dX7_count_101 : decode cX7_count 101 = .ok (.ireturn, 1) := by decide +kernel
theorem dX7_within_0 : decode cX7_within 0 = .ok (.iload_n 0, 1) := by decide +kernel
theorem dX7_within_1 : decode cX7_within 1 = .ok (.iload_n 1, 1) := by decide +kernel
theorem dX7_within_2 : decode cX7_within 2 = .ok (.if_icmp .lt 12, 3) := by decide +kernel
theorem dX7_within_5 : decode cX7_within 5 = .ok (.iload_n 0, 1) := by decide +kernel
theorem dX7_within_6 : decode cX7_within 6 = .ok (.iload_n 2, 1) := by decide +kernel
theorem dX7_within_7 : decode cX7_within 7 = .ok (.if_icmp .gt 7, 3) := by decide +kernel
theorem dX7_within_10 : decode cX7_within 10 = .ok (.iconst 1, 1) := by decide +kernel
theorem dX7_within_11 : decode cX7_within 11 = .ok (.goto 4, 3) := by decide +kernel
theorem dX7_within_14 : decode cX7_within 14 = .ok (.iconst 0, 1) := by decide +kernel
theorem dX7_within_15 : decode cX7_within 15 = .ok (.ireturn, 1) := by decide +kernel
set_option maxRecDepth 20000 in
theorem ggX7_pipeAt_Jx4a65c_size_8abf5 : GoodIn wsX7_pipeAt wsJx4a65c_size_8abf5 := goodIn_r _ [7, 8, 38, 39, 40] (by decide +kernel) (by decide +kernel)
set_option maxRecDepth 20000 in
theorem gX7_pipeAt_Jx4a65c_size_8abf5 : GoodIn wsX7_pipeAt (wsV RX7 62 RJx4a65c yJx4a65c_size_8abf5 wsJx4a65c_size_8abf5) := goodIn_app (goodIn_of _ (by decide +kernel)) ggX7_pipeAt_Jx4a65c_size_8abf5
set_option maxRecDepth 20000 in
theorem ggX7_pipeAt_X7_within : GoodIn wsX7_pipeAt wsX7_within := goodIn_r _ [12] (by decide +kernel) (by decide +kernel)
set_option maxRecDepth 20000 in
theorem gX7_pipeAt_X7_within : GoodIn wsX7_pipeAt (va_wsS RX7 58 yX7_within wsX7_within) := goodIn_app (goodIn_of _ (by decide +kernel)) ggX7_pipeAt_X7_within
set_option maxRecDepth 20000 in
theorem ggX7_pipeAt_Jx4a65c_get_915e3 : GoodIn wsX7_pipeAt wsJx4a65c_get_915e3 := goodIn_r _ [16, 8, 17, 18, 19, 20, 21, 22, 23, 24, 25, 26, 27, 6, 28, 29, 38, 39, 40] (by decide +kernel) (by decide +kernel)
set_option maxRecDepth 20000 in
theorem gX7_pipeAt_Jx4a65c_get_915e3 : GoodIn wsX7_pipeAt (wsV RX7 99 RJx4a65c yJx4a65c_get_915e3 wsJx4a65c_get_915e3) := goodIn_app (goodIn_of _ (by decide +kernel)) ggX7_pipeAt_Jx4a65c_get_915e3
theorem dX7_pipeAt_0 : decode cX7_pipeAt 0 = .ok (.iload_n 1, 1) := by decide +kernel
theorem dX7_pipeAt_1 : decode cX7_pipeAt 1 = .ok (.iconst 0, 1) := by decide +kernel
theorem dX7_pipeAt_2 : decode cX7_pipeAt 2 = .ok (.aload_n 0, 1) := by decide +kernel
theorem dX7_pipeAt_3 : decode cX7_pipeAt 3 = .ok (.getfield 10, 3) := by decide +kernel
theorem dX7_pipeAt_6 : decode cX7_pipeAt 6 = .ok (.invokevirtual 62, 3) := by decide +kernel
theorem dX7_pipeAt_9 : decode cX7_pipeAt 9 = .ok (.iconst 1, 1) := by decide +kernel
theorem dX7_pipeAt_10 : decode cX7_pipeAt 10 = .ok (.isub, 1) := by decide +kernel
theorem dX7_pipeAt_11 : decode cX7_pipeAt 11 = .ok (.invokestatic 58, 3) := by decide +kernel
theorem dX7_pipeAt_14 : decode cX7_pipeAt 14 = .ok (.ifCond .eq 17, 3) := by decide +kernel
theorem dX7_pipeAt_17 : decode cX7_pipeAt 17 = .ok (.aload_n 0, 1) := by decide +kernel
theorem dX7_pipeAt_18 : decode cX7_pipeAt 18 = .ok (.getfield 10, 3) := by decide +kernel
theorem dX7_pipeAt_21 : decode cX7_pipeAt 21 = .ok (.iload_n 1, 1) := by decide +kernel
theorem dX7_pipeAt_22 : decode cX7_pipeAt 22 = .ok (.invokevirtual 99, 3) := by decide +kernel
theorem dX7_pipeAt_25 : decode cX7_pipeAt 25 = .ok (.checkcast 67, 3) := by decide +kernel
theorem dX7_pipeAt_28 : decode cX7_pipeAt 28 = .ok (.goto 4, 3) := by decide +kernel
theorem dX7_pipeAt_31 : decode cX7_pipeAt 31 = .ok (.aconst_null, 1) := by decide +kernel
theorem dX7_pipeAt_32 : decode cX7_pipeAt 32 = .ok (.areturn, 1) := by decide +kernel
set_option maxRecDepth 20000 in
theorem ggX7_dialAt_Jx4a65c_size_8abf5 : GoodIn wsX7_dialAt wsJx4a65c_size_8abf5 := goodIn_r _ [7, 8, 38, 39, 40] (by decide +kernel) (by decide +kernel)
set_option maxRecDepth 20000 in
theorem gX7_dialAt_Jx4a65c_size_8abf5 : GoodIn wsX7_dialAt (wsV RX7 62 RJx4a65c yJx4a65c_size_8abf5 wsJx4a65c_size_8abf5) := goodIn_app (goodIn_of _ (by decide +kernel)) ggX7_dialAt_Jx4a65c_size_8abf5
set_option maxRecDepth 20000 in
theorem ggX7_dialAt_X7_within : GoodIn wsX7_dialAt wsX7_within := goodIn_r _ [12] (by decide +kernel) (by decide +kernel)
set_option maxRecDepth 20000 in
theorem gX7_dialAt_X7_within : GoodIn wsX7_dialAt (va_wsS RX7 58 yX7_within wsX7_within) := goodIn_app (goodIn_of _ (by decide +kernel)) ggX7_dialAt_X7_within
set_option maxRecDepth 20000 in
theorem ggX7_dialAt_Jx4a65c_get_915e3 : GoodIn wsX7_dialAt wsJx4a65c_get_915e3 := goodIn_r _ [16, 8, 17, 18, 19, 20, 21, 22, 23, 24, 25, 26, 27, 6, 28, 29, 38, 39, 40] (by decide +kernel) (by decide +kernel)
set_option maxRecDepth 20000 in
theorem gX7_dialAt_Jx4a65c_get_915e3 : GoodIn wsX7_dialAt (wsV RX7 99 RJx4a65c yJx4a65c_get_915e3 wsJx4a65c_get_915e3) := goodIn_app (goodIn_of _ (by decide +kernel)) ggX7_dialAt_Jx4a65c_get_915e3
theorem dX7_dialAt_0 : decode cX7_dialAt 0 = .ok (.iload_n 1, 1) := by decide +kernel
theorem dX7_dialAt_1 : decode cX7_dialAt 1 = .ok (.iconst 0, 1) := by decide +kernel
theorem dX7_dialAt_2 : decode cX7_dialAt 2 = .ok (.aload_n 0, 1) := by decide +kernel
theorem dX7_dialAt_3 : decode cX7_dialAt 3 = .ok (.getfield 16, 3) := by decide +kernel
theorem dX7_dialAt_6 : decode cX7_dialAt 6 = .ok (.invokevirtual 62, 3) := by decide +kernel
theorem dX7_dialAt_9 : decode cX7_dialAt 9 = .ok (.iconst 1, 1) := by decide +kernel
theorem dX7_dialAt_10 : decode cX7_dialAt 10 = .ok (.isub, 1) := by decide +kernel
theorem dX7_dialAt_11 : decode cX7_dialAt 11 = .ok (.invokestatic 58, 3) := by decide +kernel
theorem dX7_dialAt_14 : decode cX7_dialAt 14 = .ok (.ifCond .eq 17, 3) := by decide +kernel
theorem dX7_dialAt_17 : decode cX7_dialAt 17 = .ok (.aload_n 0, 1) := by decide +kernel
theorem dX7_dialAt_18 : decode cX7_dialAt 18 = .ok (.getfield 16, 3) := by decide +kernel
theorem dX7_dialAt_21 : decode cX7_dialAt 21 = .ok (.iload_n 1, 1) := by decide +kernel
theorem dX7_dialAt_22 : decode cX7_dialAt 22 = .ok (.invokevirtual 99, 3) := by decide +kernel
theorem dX7_dialAt_25 : decode cX7_dialAt 25 = .ok (.checkcast 86, 3) := by decide +kernel
theorem dX7_dialAt_28 : decode cX7_dialAt 28 = .ok (.goto 4, 3) := by decide +kernel
theorem dX7_dialAt_31 : decode cX7_dialAt 31 = .ok (.aconst_null, 1) := by decide +kernel
theorem dX7_dialAt_32 : decode cX7_dialAt 32 = .ok (.areturn, 1) := by decide +kernel
theorem dX7_isOfKind_0 : decode cX7_isOfKind 0 = .ok (.iload_n 0, 1) := by decide +kernel
theorem dX7_isOfKind_1 : decode cX7_isOfKind 1 = .ok (.iload_n 1, 1) := by decide +kernel
theorem dX7_isOfKind_2 : decode cX7_isOfKind 2 = .ok (.if_icmp .eq 17, 3) := by decide +kernel
theorem dX7_isOfKind_5 : decode cX7_isOfKind 5 = .ok (.iload_n 1, 1) := by decide +kernel
theorem dX7_isOfKind_6 : decode cX7_isOfKind 6 = .ok (.ifCond .eq 13, 3) := by decide +kernel
theorem dX7_isOfKind_9 : decode cX7_isOfKind 9 = .ok (.iload_n 0, 1) := by decide +kernel
theorem dX7_isOfKind_10 : decode cX7_isOfKind 10 = .ok (.iconst 2, 1) := by decide +kernel
theorem dX7_isOfKind_11 : decode cX7_isOfKind 11 = .ok (.if_icmp .ne 12, 3) := by decide +kernel
theorem dX7_isOfKind_14 : decode cX7_isOfKind 14 = .ok (.iload_n 1, 1) := by decide +kernel
theorem dX7_isOfKind_15 : decode cX7_isOfKind 15 = .ok (.iconst 1, 1) := by decide +kernel
theorem dX7_isOfKind_16 : decode cX7_isOfKind 16 = .ok (.if_icmp .ne 7, 3) := by decide +kernel
theorem dX7_isOfKind_19 : decode cX7_isOfKind 19 = .ok (.iconst 1, 1) := by decide +kernel
theorem dX7_isOfKind_20 : decode cX7_isOfKind 20 = .ok (.goto 4, 3) := by decide +kernel
theorem dX7_isOfKind_23 : decode cX7_isOfKind 23 = .ok (.iconst 0, 1) := by decide +kernel
theorem dX7_isOfKind_24 : decode cX7_isOfKind 24 = .ok (.ireturn, 1) := by decide +kernel
set_option maxRecDepth 20000 in
theorem ggX7_mostWrongDial_Jx4a65c_size_8abf5 : GoodIn wsX7_mostWrongDial wsJx4a65c_size_8abf5 := goodIn_r _ [12, 13, 51, 52, 53] (by decide +kernel) (by decide +kernel)
set_option maxRecDepth 20000 in
theorem gX7_mostWrongDial_Jx4a65c_size_8abf5 : GoodIn wsX7_mostWrongDial (wsV RX7 62 RJx4a65c yJx4a65c_size_8abf5 wsJx4a65c_size_8abf5) := goodIn_app (goodIn_of _ (by decide +kernel)) ggX7_mostWrongDial_Jx4a65c_size_8abf5
set_option maxRecDepth 20000 in
theorem ggX7_mostWrongDial_Jx4a65c_get_915e3 : GoodIn wsX7_mostWrongDial wsJx4a65c_get_915e3 := goodIn_r _ [17, 13, 18, 19, 20, 21, 22, 23, 24, 25, 26, 27, 28, 11, 29, 30, 51, 52, 53] (by decide +kernel) (by decide +kernel)
set_option maxRecDepth 20000 in
theorem gX7_mostWrongDial_Jx4a65c_get_915e3 : GoodIn wsX7_mostWrongDial (wsV RX7 99 RJx4a65c yJx4a65c_get_915e3 wsJx4a65c_get_915e3) := goodIn_app (goodIn_of _ (by decide +kernel)) ggX7_mostWrongDial_Jx4a65c_get_915e3
theorem dX7_mostWrongDial_0 : decode cX7_mostWrongDial 0 = .ok (.aconst_null, 1) := by decide +kernel
theorem dX7_mostWrongDial_1 : decode cX7_mostWrongDial 1 = .ok (.astore_n 1, 1) := by decide +kernel
theorem dX7_mostWrongDial_2 : decode cX7_mostWrongDial 2 = .ok (.iconst 0, 1) := by decide +kernel
theorem dX7_mostWrongDial_3 : decode cX7_mostWrongDial 3 = .ok (.istore_n 2, 1) := by decide +kernel
theorem dX7_mostWrongDial_4 : decode cX7_mostWrongDial 4 = .ok (.iconst 0, 1) := by decide +kernel
theorem dX7_mostWrongDial_5 : decode cX7_mostWrongDial 5 = .ok (.istore_n 3, 1) := by decide +kernel
theorem dX7_mostWrongDial_6 : decode cX7_mostWrongDial 6 = .ok (.iload_n 3, 1) := by decide +kernel
theorem dX7_mostWrongDial_7 : decode cX7_mostWrongDial 7 = .ok (.aload_n 0, 1) := by decide +kernel
theorem dX7_mostWrongDial_8 : decode cX7_mostWrongDial 8 = .ok (.getfield 16, 3) := by decide +kernel
theorem dX7_mostWrongDial_11 : decode cX7_mostWrongDial 11 = .ok (.invokevirtual 62, 3) := by decide +kernel
theorem dX7_mostWrongDial_14 : decode cX7_mostWrongDial 14 = .ok (.if_icmp .ge 46, 3) := by decide +kernel
theorem dX7_mostWrongDial_17 : decode cX7_mostWrongDial 17 = .ok (.aload_n 0, 1) := by decide +kernel
theorem dX7_mostWrongDial_18 : decode cX7_mostWrongDial 18 = .ok (.getfield 16, 3) := by decide +kernel
theorem dX7_mostWrongDial_21 : decode cX7_mostWrongDial 21 = .ok (.iload_n 3, 1) := by decide +kernel
theorem dX7_mostWrongDial_22 : decode cX7_mostWrongDial 22 = .ok (.invokevirtual 99, 3) := by decide +kernel
theorem dX7_mostWrongDial_25 : decode cX7_mostWrongDial 25 = .ok (.checkcast 86, 3) := by decide +kernel
theorem dX7_mostWrongDial_28 : decode cX7_mostWrongDial 28 = .ok (.astore 4, 2) := by decide +kernel
theorem dX7_mostWrongDial_30 : decode cX7_mostWrongDial 30 = .ok (.aload 4, 2) := by decide +kernel
theorem dX7_mostWrongDial_32 : decode cX7_mostWrongDial 32 = .ok (.getfield 140, 3) := by decide +kernel
theorem dX7_mostWrongDial_35 : decode cX7_mostWrongDial 35 = .ok (.invokestatic 253, 3) := by decide +kernel
theorem dX7_mostWrongDial_38 : decode cX7_mostWrongDial 38 = .ok (.iload_n 2, 1) := by decide +kernel
theorem dX7_mostWrongDial_39 : decode cX7_mostWrongDial 39 = .ok (.if_icmp .le 15, 3) := by decide +kernel
theorem dX7_mostWrongDial_42 : decode cX7_mostWrongDial 42 = .ok (.aload 4, 2) := by decide +kernel
theorem dX7_mostWrongDial_44 : decode cX7_mostWrongDial 44 = .ok (.getfield 140, 3) := by decide +kernel
theorem dX7_mostWrongDial_47 : decode cX7_mostWrongDial 47 = .ok (.invokestatic 253, 3) := by decide +kernel
theorem dX7_mostWrongDial_50 : decode cX7_mostWrongDial 50 = .ok (.istore_n 2, 1) := by decide +kernel
theorem dX7_mostWrongDial_51 : decode cX7_mostWrongDial 51 = .ok (.aload 4, 2) := by decide +kernel
theorem dX7_mostWrongDial_53 : decode cX7_mostWrongDial 53 = .ok (.astore_n 1, 1) := by decide +kernel
theorem dX7_mostWrongDial_54 : decode cX7_mostWrongDial 54 = .ok (.iinc 3 1, 3) := by decide +kernel
theorem dX7_mostWrongDial_57 : decode cX7_mostWrongDial 57 = .ok (.goto (-51), 3) := by decide +kernel
theorem dX7_mostWrongDial_60 : decode cX7_mostWrongDial 60 = .ok (.aload_n 1, 1) := by decide +kernel
theorem dX7_mostWrongDial_61 : decode cX7_mostWrongDial 61 = .ok (.areturn, 1) := by decide +kernel
set_option maxRecDepth 20000 in
theorem ggX7_countOfKind_Jx4a65c_size_8abf5 : GoodIn wsX7_countOfKind wsJx4a65c_size_8abf5 := goodIn_r _ [7, 8, 45, 46, 47] (by decide +kernel) (by decide +kernel)
set_option maxRecDepth 20000 in
theorem gX7_countOfKind_Jx4a65c_size_8abf5 : GoodIn wsX7_countOfKind (wsV RX7 62 RJx4a65c yJx4a65c_size_8abf5 wsJx4a65c_size_8abf5) := goodIn_app (goodIn_of _ (by decide +kernel)) ggX7_countOfKind_Jx4a65c_size_8abf5
set_option maxRecDepth 20000 in
theorem ggX7_countOfKind_Jx4a65c_get_915e3 : GoodIn wsX7_countOfKind wsJx4a65c_get_915e3 := goodIn_r _ [12, 8, 13, 14, 15, 16, 17, 18, 19, 20, 21, 22, 23, 6, 24, 25, 45, 46, 47] (by decide +kernel) (by decide +kernel)
set_option maxRecDepth 20000 in
theorem gX7_countOfKind_Jx4a65c_get_915e3 : GoodIn wsX7_countOfKind (wsV RX7 99 RJx4a65c yJx4a65c_get_915e3 wsJx4a65c_get_915e3) := goodIn_app (goodIn_of _ (by decide +kernel)) ggX7_countOfKind_Jx4a65c_get_915e3
set_option maxRecDepth 20000 in
theorem ggX7_countOfKind_X0_toldKind : GoodIn wsX7_countOfKind wsX0_toldKind := goodIn_r _ [30, 31, 32, 48, 49, 50, 51, 52, 53, 54, 55, 56, 57, 58, 59] (by decide +kernel) (by decide +kernel)
set_option maxRecDepth 20000 in
theorem gX7_countOfKind_X0_toldKind : GoodIn wsX7_countOfKind (wsV RX7 173 RX0 yX0_toldKind wsX0_toldKind) := goodIn_app (goodIn_of _ (by decide +kernel)) ggX7_countOfKind_X0_toldKind
set_option maxRecDepth 20000 in
theorem ggX7_countOfKind_X7_isOfKind : GoodIn wsX7_countOfKind wsX7_isOfKind := goodIn_r _ [36] (by decide +kernel) (by decide +kernel)
set_option maxRecDepth 20000 in
theorem gX7_countOfKind_X7_isOfKind : GoodIn wsX7_countOfKind (va_wsS RX7 176 yX7_isOfKind wsX7_isOfKind) := goodIn_app (goodIn_of _ (by decide +kernel)) ggX7_countOfKind_X7_isOfKind
theorem dX7_countOfKind_0 : decode cX7_countOfKind 0 = .ok (.iconst 0, 1) := by decide +kernel
theorem dX7_countOfKind_1 : decode cX7_countOfKind 1 = .ok (.istore_n 2, 1) := by decide +kernel
theorem dX7_countOfKind_2 : decode cX7_countOfKind 2 = .ok (.iconst 0, 1) := by decide +kernel
theorem dX7_countOfKind_3 : decode cX7_countOfKind 3 = .ok (.istore_n 3, 1) := by decide +kernel
theorem dX7_countOfKind_4 : decode cX7_countOfKind 4 = .ok (.iload_n 3, 1) := by decide +kernel
theorem dX7_countOfKind_5 : decode cX7_countOfKind 5 = .ok (.aload_n 0, 1) := by decide +kernel
theorem dX7_countOfKind_6 : decode cX7_countOfKind 6 = .ok (.getfield 16, 3) := by decide +kernel
theorem dX7_countOfKind_9 : decode cX7_countOfKind 9 = .ok (.invokevirtual 62, 3) := by decide +kernel
theorem dX7_countOfKind_12 : decode cX7_countOfKind 12 = .ok (.if_icmp .ge 33, 3) := by decide +kernel
theorem dX7_countOfKind_15 : decode cX7_countOfKind 15 = .ok (.aload_n 0, 1) := by decide +kernel
theorem dX7_countOfKind_16 : decode cX7_countOfKind 16 = .ok (.getfield 16, 3) := by decide +kernel
theorem dX7_countOfKind_19 : decode cX7_countOfKind 19 = .ok (.iload_n 3, 1) := by decide +kernel
theorem dX7_countOfKind_20 : decode cX7_countOfKind 20 = .ok (.invokevirtual 99, 3) := by decide +kernel
theorem dX7_countOfKind_23 : decode cX7_countOfKind 23 = .ok (.checkcast 86, 3) := by decide +kernel
theorem dX7_countOfKind_26 : decode cX7_countOfKind 26 = .ok (.invokevirtual 173, 3) := by decide +kernel
theorem dX7_countOfKind_29 : decode cX7_countOfKind 29 = .ok (.iload_n 1, 1) := by decide +kernel
theorem dX7_countOfKind_30 : decode cX7_countOfKind 30 = .ok (.invokestatic 176, 3) := by decide +kernel
theorem dX7_countOfKind_33 : decode cX7_countOfKind 33 = .ok (.ifCond .eq 6, 3) := by decide +kernel
theorem dX7_countOfKind_36 : decode cX7_countOfKind 36 = .ok (.iinc 2 1, 3) := by decide +kernel
theorem dX7_countOfKind_39 : decode cX7_countOfKind 39 = .ok (.iinc 3 1, 3) := by decide +kernel
theorem dX7_countOfKind_42 : decode cX7_countOfKind 42 = .ok (.goto (-38), 3) := by decide +kernel
theorem dX7_countOfKind_45 : decode cX7_countOfKind 45 = .ok (.iload_n 2, 1) := by decide +kernel
theorem dX7_countOfKind_46 : decode cX7_countOfKind 46 = .ok (.ireturn, 1) := by decide +kernel
set_option maxRecDepth 20000 in
theorem ggX7_countContracts_Jx4a65c_size_8abf5 : GoodIn wsX7_countContracts wsJx4a65c_size_8abf5 := goodIn_r _ [8, 9, 47, 48, 49] (by decide +kernel) (by decide +kernel)
set_option maxRecDepth 20000 in
theorem gX7_countContracts_Jx4a65c_size_8abf5 : GoodIn wsX7_countContracts (wsV RX7 62 RJx4a65c yJx4a65c_size_8abf5 wsJx4a65c_size_8abf5) := goodIn_app (goodIn_of _ (by decide +kernel)) ggX7_countContracts_Jx4a65c_size_8abf5
set_option maxRecDepth 20000 in
theorem ggX7_countContracts_Jx4a65c_get_915e3 : GoodIn wsX7_countContracts wsJx4a65c_get_915e3 := goodIn_r _ [13, 9, 14, 15, 16, 17, 18, 19, 20, 21, 22, 23, 24, 7, 25, 26, 47, 48, 49] (by decide +kernel) (by decide +kernel)
set_option maxRecDepth 20000 in
theorem gX7_countContracts_Jx4a65c_get_915e3 : GoodIn wsX7_countContracts (wsV RX7 99 RJx4a65c yJx4a65c_get_915e3 wsJx4a65c_get_915e3) := goodIn_app (goodIn_of _ (by decide +kernel)) ggX7_countContracts_Jx4a65c_get_915e3
theorem dX7_countContracts_0 : decode cX7_countContracts 0 = .ok (.iconst 0, 1) := by decide +kernel
theorem dX7_countContracts_1 : decode cX7_countContracts 1 = .ok (.istore_n 1, 1) := by decide +kernel
theorem dX7_countContracts_2 : decode cX7_countContracts 2 = .ok (.iconst 0, 1) := by decide +kernel
theorem dX7_countContracts_3 : decode cX7_countContracts 3 = .ok (.istore_n 2, 1) := by decide +kernel
theorem dX7_countContracts_4 : decode cX7_countContracts 4 = .ok (.iload_n 2, 1) := by decide +kernel
theorem dX7_countContracts_5 : decode cX7_countContracts 5 = .ok (.aload_n 0, 1) := by decide +kernel
theorem dX7_countContracts_6 : decode cX7_countContracts 6 = .ok (.getfield 16, 3) := by decide +kernel
theorem dX7_countContracts_9 : decode cX7_countContracts 9 = .ok (.invokevirtual 62, 3) := by decide +kernel
theorem dX7_countContracts_12 : decode cX7_countContracts 12 = .ok (.if_icmp .ge 29, 3) := by decide +kernel
theorem dX7_countContracts_15 : decode cX7_countContracts 15 = .ok (.aload_n 0, 1) := by decide +kernel
theorem dX7_countContracts_16 : decode cX7_countContracts 16 = .ok (.getfield 16, 3) := by decide +kernel
theorem dX7_countContracts_19 : decode cX7_countContracts 19 = .ok (.iload_n 2, 1) := by decide +kernel
theorem dX7_countContracts_20 : decode cX7_countContracts 20 = .ok (.invokevirtual 99, 3) := by decide +kernel
theorem dX7_countContracts_23 : decode cX7_countContracts 23 = .ok (.checkcast 86, 3) := by decide +kernel
theorem dX7_countContracts_26 : decode cX7_countContracts 26 = .ok (.getfield 258, 3) := by decide +kernel
theorem dX7_countContracts_29 : decode cX7_countContracts 29 = .ok (.ifCond .eq 6, 3) := by decide +kernel
theorem dX7_countContracts_32 : decode cX7_countContracts 32 = .ok (.iinc 1 1, 3) := by decide +kernel
theorem dX7_countContracts_35 : decode cX7_countContracts 35 = .ok (.iinc 2 1, 3) := by decide +kernel
theorem dX7_countContracts_38 : decode cX7_countContracts 38 = .ok (.goto (-34), 3) := by decide +kernel
theorem dX7_countContracts_41 : decode cX7_countContracts 41 = .ok (.iload_n 1, 1) := by decide +kernel
theorem dX7_countContracts_42 : decode cX7_countContracts 42 = .ok (.ireturn, 1) := by decide +kernel
set_option maxRecDepth 20000 in
theorem ggX7_allLates_Jx4a65c_size_8abf5 : GoodIn wsX7_allLates wsJx4a65c_size_8abf5 := goodIn_r _ [12, 13, 51, 52, 53] (by decide +kernel) (by decide +kernel)
set_option maxRecDepth 20000 in
theorem gX7_allLates_Jx4a65c_size_8abf5 : GoodIn wsX7_allLates (wsV RX7 62 RJx4a65c yJx4a65c_size_8abf5 wsJx4a65c_size_8abf5) := goodIn_app (goodIn_of _ (by decide +kernel)) ggX7_allLates_Jx4a65c_size_8abf5
set_option maxRecDepth 20000 in
theorem ggX7_allLates_Jx4a65c_get_915e3 : GoodIn wsX7_allLates wsJx4a65c_get_915e3 := goodIn_r _ [17, 13, 18, 19, 20, 21, 22, 23, 24, 25, 26, 27, 28, 11, 29, 30, 51, 52, 53] (by decide +kernel) (by decide +kernel)
set_option maxRecDepth 20000 in
theorem gX7_allLates_Jx4a65c_get_915e3 : GoodIn wsX7_allLates (wsV RX7 99 RJx4a65c yJx4a65c_get_915e3 wsJx4a65c_get_915e3) := goodIn_app (goodIn_of _ (by decide +kernel)) ggX7_allLates_Jx4a65c_get_915e3
theorem dX7_allLates_0 : decode cX7_allLates 0 = .ok (.iconst 0, 1) := by decide +kernel
theorem dX7_allLates_1 : decode cX7_allLates 1 = .ok (.istore_n 1, 1) := by decide +kernel
theorem dX7_allLates_2 : decode cX7_allLates 2 = .ok (.iconst 0, 1) := by decide +kernel
theorem dX7_allLates_3 : decode cX7_allLates 3 = .ok (.istore_n 2, 1) := by decide +kernel
theorem dX7_allLates_4 : decode cX7_allLates 4 = .ok (.iload_n 2, 1) := by decide +kernel
theorem dX7_allLates_5 : decode cX7_allLates 5 = .ok (.aload_n 0, 1) := by decide +kernel
theorem dX7_allLates_6 : decode cX7_allLates 6 = .ok (.getfield 16, 3) := by decide +kernel
theorem dX7_allLates_9 : decode cX7_allLates 9 = .ok (.invokevirtual 62, 3) := by decide +kernel
theorem dX7_allLates_12 : decode cX7_allLates 12 = .ok (.if_icmp .ge 29, 3) := by decide +kernel
theorem dX7_allLates_15 : decode cX7_allLates 15 = .ok (.iload_n 1, 1) := by decide +kernel
theorem dX7_allLates_16 : decode cX7_allLates 16 = .ok (.aload_n 0, 1) := by decide +kernel
theorem dX7_allLates_17 : decode cX7_allLates 17 = .ok (.getfield 16, 3) := by decide +kernel
theorem dX7_allLates_20 : decode cX7_allLates 20 = .ok (.iload_n 2, 1) := by decide +kernel
theorem dX7_allLates_21 : decode cX7_allLates 21 = .ok (.invokevirtual 99, 3) := by decide +kernel
theorem dX7_allLates_24 : decode cX7_allLates 24 = .ok (.checkcast 86, 3) := by decide +kernel
theorem dX7_allLates_27 : decode cX7_allLates 27 = .ok (.getfield 140, 3) := by decide +kernel
theorem dX7_allLates_30 : decode cX7_allLates 30 = .ok (.invokestatic 253, 3) := by decide +kernel
theorem dX7_allLates_33 : decode cX7_allLates 33 = .ok (.iadd, 1) := by decide +kernel
theorem dX7_allLates_34 : decode cX7_allLates 34 = .ok (.istore_n 1, 1) := by decide +kernel
theorem dX7_allLates_35 : decode cX7_allLates 35 = .ok (.iinc 2 1, 3) := by decide +kernel
theorem dX7_allLates_38 : decode cX7_allLates 38 = .ok (.goto (-34), 3) := by decide +kernel
theorem dX7_allLates_41 : decode cX7_allLates 41 = .ok (.iload_n 1, 1) := by decide +kernel
theorem dX7_allLates_42 : decode cX7_allLates 42 = .ok (.ireturn, 1) := by decide +kernel
set_option maxRecDepth 20000 in
theorem ggX7_weightOf_X0_toldKind : GoodIn wsX7_weightOf wsX0_toldKind := goodIn_r _ [5, 6, 7, 34, 35, 36, 37, 38, 39, 40, 41, 42, 43, 44, 45] (by decide +kernel) (by decide +kernel)
set_option maxRecDepth 20000 in
theorem gX7_weightOf_X0_toldKind : GoodIn wsX7_weightOf (wsV RX7 173 RX0 yX0_toldKind wsX0_toldKind) := goodIn_app (goodIn_of _ (by decide +kernel)) ggX7_weightOf_X0_toldKind
set_option maxRecDepth 20000 in
theorem ggX7_weightOf_X7_body11 : GoodIn wsX7_weightOf wsX7_body11 := goodIn_r _ [12, 13, 14, 15, 16, 17, 18, 19, 20, 21, 22, 23, 11, 24, 25, 46, 47, 48, 49, 50, 51, 52, 53, 54, 55, 34, 35, 36, 37, 38, 39, 40, 41, 42, 43, 44, 45] (by decide +kernel) (by decide +kernel)
set_option maxRecDepth 20000 in
theorem gX7_weightOf_X7_body11 : GoodIn wsX7_weightOf (wsV RX7 261 RX7 yX7_body11 wsX7_body11) := goodIn_app (goodIn_of _ (by decide +kernel)) ggX7_weightOf_X7_body11
set_option maxRecDepth 20000 in
theorem ggX7_weightOf_X7_body12 : GoodIn wsX7_weightOf wsX7_body12 := goodIn_r _ [29, 13, 14, 15, 16, 17, 18, 19, 20, 8, 9, 10, 11, 12, 21, 22, 23, 24, 25, 46, 47, 48, 49, 50, 51, 52, 53, 54, 55, 34, 35, 36, 37, 38, 39, 40, 41, 42, 43, 44, 45] (by decide +kernel) (by decide +kernel)
set_option maxRecDepth 20000 in
theorem gX7_weightOf_X7_body12 : GoodIn wsX7_weightOf (wsV RX7 264 RX7 yX7_body12 wsX7_body12) := goodIn_app (goodIn_of _ (by decide +kernel)) ggX7_weightOf_X7_body12
set_option maxRecDepth 20000 in
theorem ggX7_weightOf_X7_body13 : GoodIn wsX7_weightOf wsX7_body13 := goodIn_r _ [33, 13, 14, 15, 16, 17, 18, 19, 20, 21, 22, 23, 11, 24, 25, 46, 47, 48, 49, 50, 51, 52, 53, 54, 55, 34, 35, 36, 37, 38, 39, 40, 41, 42, 43, 44, 45] (by decide +kernel) (by decide +kernel)
set_option maxRecDepth 20000 in
theorem gX7_weightOf_X7_body13 : GoodIn wsX7_weightOf (wsV RX7 267 RX7 yX7_body13 wsX7_body13) := goodIn_app (goodIn_of _ (by decide +kernel)) ggX7_weightOf_X7_body13
set_option maxRecDepth 20000 in
theorem ggX7_weightOf_X7_body10 : GoodIn wsX7_weightOf wsX7_body10 := goodIn_r _ [24, 13, 25, 14, 15, 16, 17, 18, 19, 20, 46, 47, 48, 49, 50, 51, 52, 53, 34, 35, 36, 37, 38, 39, 40, 41, 42, 43, 44, 45, 54, 55] (by decide +kernel) (by decide +kernel)
set_option maxRecDepth 20000 in
theorem gX7_weightOf_X7_body10 : GoodIn wsX7_weightOf (wsV RX7 270 RX7 yX7_body10 wsX7_body10) := goodIn_app (goodIn_of _ (by decide +kernel)) ggX7_weightOf_X7_body10
theorem dX7_weightOf_0 : decode cX7_weightOf 0 = .ok (.aload_n 1, 1) := by decide +kernel
theorem dX7_weightOf_1 : decode cX7_weightOf 1 = .ok (.invokevirtual 173, 3) := by decide +kernel
theorem dX7_weightOf_4 : decode cX7_weightOf 4 = .ok (.tableswitch 46 1 3 #[28, 34, 40], 28) := by decide +kernel
theorem dX7_weightOf_32 : decode cX7_weightOf 32 = .ok (.aload_n 0, 1) := by decide +kernel
theorem dX7_weightOf_33 : decode cX7_weightOf 33 = .ok (.aload_n 1, 1) := by decide +kernel
theorem dX7_weightOf_34 : decode cX7_weightOf 34 = .ok (.invokevirtual 261, 3) := by decide +kernel
theorem dX7_weightOf_37 : decode cX7_weightOf 37 = .ok (.ireturn, 1) := by decide +kernel
theorem dX7_weightOf_38 : decode cX7_weightOf 38 = .ok (.aload_n 0, 1) := by decide +kernel
theorem dX7_weightOf_39 : decode cX7_weightOf 39 = .ok (.aload_n 1, 1) := by decide +kernel
theorem dX7_weightOf_40 : decode cX7_weightOf 40 = .ok (.invokevirtual 264, 3) := by decide +kernel
theorem dX7_weightOf_43 : decode cX7_weightOf 43 = .ok (.ireturn, 1) := by decide +kernel
theorem dX7_weightOf_44 : decode cX7_weightOf 44 = .ok (.aload_n 0, 1) := by decide +kernel
theorem dX7_weightOf_45 : decode cX7_weightOf 45 = .ok (.aload_n 1, 1) := by decide +kernel
theorem dX7_weightOf_46 : decode cX7_weightOf 46 = .ok (.invokevirtual 267, 3) := by decide +kernel
theorem dX7_weightOf_49 : decode cX7_weightOf 49 = .ok (.ireturn, 1) := by decide +kernel
theorem dX7_weightOf_50 : decode cX7_weightOf 50 = .ok (.aload_n 0, 1) := by decide +kernel
theorem dX7_weightOf_51 : decode cX7_weightOf 51 = .ok (.aload_n 1, 1) := by decide +kernel
theorem dX7_weightOf_52 : decode cX7_weightOf 52 = .ok (.invokevirtual 270, 3) := by decide +kernel
theorem dX7_weightOf_55 : decode cX7_weightOf 55 = .ok (.ireturn, 1) := by decide +kernel
set_option maxRecDepth 20000 in
theorem ggX7_body10_X6_begin : GoodIn wsX7_body10 wsX6_begin := goodIn_r _ [7, 8, 9, 30, 31] (by decide +kernel) (by decide +kernel)
set_option maxRecDepth 20000 in
theorem gX7_body10_X6_begin : GoodIn wsX7_body10 (wsV RX7 273 RX6 yX6_begin wsX6_begin) := goodIn_app (goodIn_of _ (by decide +kernel)) ggX7_body10_X6_begin
theorem dX7_body10_0 : decode cX7_body10 0 = .ok (.aload_n 0, 1) := by decide +kernel
theorem dX7_body10_1 : decode cX7_body10 1 = .ok (.getfield 48, 3) := by decide +kernel
theorem dX7_body10_4 : decode cX7_body10 4 = .ok (.bipush 10, 2) := by decide +kernel
theorem dX7_body10_6 : decode cX7_body10 6 = .ok (.invokevirtual 273, 3) := by decide +kernel
theorem dX7_body10_9 : decode cX7_body10 9 = .ok (.aload_n 1, 1) := by decide +kernel
theorem dX7_body10_10 : decode cX7_body10 10 = .ok (.getfield 140, 3) := by decide +kernel
theorem dX7_body10_13 : decode cX7_body10 13 = .ok (.ireturn, 1) := by decide +kernel
set_option maxRecDepth 20000 in
theorem ggX7_body11_X6_begin : GoodIn wsX7_body11 wsX6_begin := goodIn_r _ [6, 7, 8, 23, 24] (by decide +kernel) (by decide +kernel)
set_option maxRecDepth 20000 in
theorem gX7_body11_X6_begin : GoodIn wsX7_body11 (wsV RX7 273 RX6 yX6_begin wsX6_begin) := goodIn_app (goodIn_of _ (by decide +kernel)) ggX7_body11_X6_begin
set_option maxRecDepth 20000 in
theorem ggX7_body11_X7_body10 : GoodIn wsX7_body11 wsX7_body10 := goodIn_r _ [13, 1, 14, 2, 3, 4, 5, 6, 7, 8, 15, 16, 17, 18, 19, 20, 21, 22, 25, 26, 27, 28, 29, 30, 31, 32, 33, 34, 35, 36, 23, 24] (by decide +kernel) (by decide +kernel)
set_option maxRecDepth 20000 in
theorem gX7_body11_X7_body10 : GoodIn wsX7_body11 (wsV RX7 270 RX7 yX7_body10 wsX7_body10) := goodIn_app (goodIn_of _ (by decide +kernel)) ggX7_body11_X7_body10
theorem dX7_body11_0 : decode cX7_body11 0 = .ok (.aload_n 0, 1) := by decide +kernel
theorem dX7_body11_1 : decode cX7_body11 1 = .ok (.getfield 48, 3) := by decide +kernel
theorem dX7_body11_4 : decode cX7_body11 4 = .ok (.bipush 11, 2) := by decide +kernel
theorem dX7_body11_6 : decode cX7_body11 6 = .ok (.invokevirtual 273, 3) := by decide +kernel
theorem dX7_body11_9 : decode cX7_body11 9 = .ok (.aload_n 0, 1) := by decide +kernel
theorem dX7_body11_10 : decode cX7_body11 10 = .ok (.aload_n 1, 1) := by decide +kernel
theorem dX7_body11_11 : decode cX7_body11 11 = .ok (.invokevirtual 270, 3) := by decide +kernel
theorem dX7_body11_14 : decode cX7_body11 14 = .ok (.bipush 10, 2) := by decide +kernel
theorem dX7_body11_16 : decode cX7_body11 16 = .ok (.iadd, 1) := by decide +kernel
theorem dX7_body11_17 : decode cX7_body11 17 = .ok (.ireturn, 1) := by decide +kernel
set_option maxRecDepth 20000 in
theorem ggX7_body12_X6_begin : GoodIn wsX7_body12 wsX6_begin := goodIn_r _ [6, 7, 8, 27, 28] (by decide +kernel) (by decide +kernel)
set_option maxRecDepth 20000 in
theorem gX7_body12_X6_begin : GoodIn wsX7_body12 (wsV RX7 273 RX6 yX6_begin wsX6_begin) := goodIn_app (goodIn_of _ (by decide +kernel)) ggX7_body12_X6_begin
set_option maxRecDepth 20000 in
theorem ggX7_body12_X7_body11 : GoodIn wsX7_body12 wsX7_body11 := goodIn_r _ [13, 1, 2, 3, 4, 5, 6, 7, 8, 14, 15, 16, 12, 17, 18, 19, 20, 21, 22, 23, 24, 25, 26, 27, 28, 29, 30, 31, 32, 33, 34, 35, 36, 37, 38, 39, 40] (by decide +kernel) (by decide +kernel)
set_option maxRecDepth 20000 in
theorem gX7_body12_X7_body11 : GoodIn wsX7_body12 (wsV RX7 261 RX7 yX7_body11 wsX7_body11) := goodIn_app (goodIn_of _ (by decide +kernel)) ggX7_body12_X7_body11
theorem dX7_body12_0 : decode cX7_body12 0 = .ok (.aload_n 0, 1) := by decide +kernel
theorem dX7_body12_1 : decode cX7_body12 1 = .ok (.getfield 48, 3) := by decide +kernel
theorem dX7_body12_4 : decode cX7_body12 4 = .ok (.bipush 12, 2) := by decide +kernel
theorem dX7_body12_6 : decode cX7_body12 6 = .ok (.invokevirtual 273, 3) := by decide +kernel
theorem dX7_body12_9 : decode cX7_body12 9 = .ok (.iconst 2, 1) := by decide +kernel
theorem dX7_body12_10 : decode cX7_body12 10 = .ok (.aload_n 0, 1) := by decide +kernel
theorem dX7_body12_11 : decode cX7_body12 11 = .ok (.aload_n 1, 1) := by decide +kernel
theorem dX7_body12_12 : decode cX7_body12 12 = .ok (.invokevirtual 261, 3) := by decide +kernel
theorem dX7_body12_15 : decode cX7_body12 15 = .ok (.imul, 1) := by decide +kernel
theorem dX7_body12_16 : decode cX7_body12 16 = .ok (.ireturn, 1) := by decide +kernel
set_option maxRecDepth 20000 in
theorem ggX7_body13_X6_begin : GoodIn wsX7_body13 wsX6_begin := goodIn_r _ [6, 7, 8, 23, 24] (by decide +kernel) (by decide +kernel)
set_option maxRecDepth 20000 in
theorem gX7_body13_X6_begin : GoodIn wsX7_body13 (wsV RX7 273 RX6 yX6_begin wsX6_begin) := goodIn_app (goodIn_of _ (by decide +kernel)) ggX7_body13_X6_begin
set_option maxRecDepth 20000 in
theorem ggX7_body13_X7_body10 : GoodIn wsX7_body13 wsX7_body10 := goodIn_r _ [13, 1, 14, 2, 3, 4, 5, 6, 7, 8, 15, 16, 17, 18, 19, 20, 21, 22, 25, 26, 27, 28, 29, 30, 31, 32, 33, 34, 35, 36, 23, 24] (by decide +kernel) (by decide +kernel)
set_option maxRecDepth 20000 in
theorem gX7_body13_X7_body10 : GoodIn wsX7_body13 (wsV RX7 270 RX7 yX7_body10 wsX7_body10) := goodIn_app (goodIn_of _ (by decide +kernel)) ggX7_body13_X7_body10
theorem dX7_body13_0 : decode cX7_body13 0 = .ok (.aload_n 0, 1) := by decide +kernel
theorem dX7_body13_1 : decode cX7_body13 1 = .ok (.getfield 48, 3) := by decide +kernel
theorem dX7_body13_4 : decode cX7_body13 4 = .ok (.bipush 13, 2) := by decide +kernel
theorem dX7_body13_6 : decode cX7_body13 6 = .ok (.invokevirtual 273, 3) := by decide +kernel
theorem dX7_body13_9 : decode cX7_body13 9 = .ok (.aload_n 0, 1) := by decide +kernel
theorem dX7_body13_10 : decode cX7_body13 10 = .ok (.aload_n 1, 1) := by decide +kernel
theorem dX7_body13_11 : decode cX7_body13 11 = .ok (.invokevirtual 270, 3) := by decide +kernel
theorem dX7_body13_14 : decode cX7_body13 14 = .ok (.ineg, 1) := by decide +kernel
theorem dX7_body13_15 : decode cX7_body13 15 = .ok (.ireturn, 1) := by decide +kernel
set_option maxRecDepth 20000 in
theorem ggX7_markOf_X0_toldKind : GoodIn wsX7_markOf wsX0_toldKind := goodIn_r _ [5, 6, 7, 51, 52, 53, 54, 55, 56, 57, 58, 59, 60, 61, 62] (by decide +kernel) (by decide +kernel)
set_option maxRecDepth 20000 in
theorem gX7_markOf_X0_toldKind : GoodIn wsX7_markOf (wsV RX7 173 RX0 yX0_toldKind wsX0_toldKind) := goodIn_app (goodIn_of _ (by decide +kernel)) ggX7_markOf_X0_toldKind
set_option maxRecDepth 20000 in
theorem ggX7_markOf_X7_body21 : GoodIn wsX7_markOf wsX7_body21 := goodIn_r _ [12, 13, 14, 15, 16, 17, 18, 19, 20, 21, 22, 23, 11, 24, 25, 26, 27, 28, 29, 1, 2, 3, 4, 5, 6, 7, 30, 31, 32, 33, 34, 35, 36, 37, 38, 39, 40, 41, 42, 43, 44, 45, 46, 63, 64, 65, 66, 67, 68, 69, 70, 71, 72, 51, 52, 53, 54, 55, 56, 57, 58, 59, 60, 61, 62] (by decide +kernel) (by decide +kernel)
set_option maxRecDepth 20000 in
theorem gX7_markOf_X7_body21 : GoodIn wsX7_markOf (wsV RX7 276 RX7 yX7_body21 wsX7_body21) := goodIn_app (goodIn_of _ (by decide +kernel)) ggX7_markOf_X7_body21
set_option maxRecDepth 20000 in
theorem ggX7_markOf_X7_body22 : GoodIn wsX7_markOf wsX7_body22 := goodIn_r _ [50, 13, 14, 15, 16, 17, 18, 19, 20, 21, 22, 23, 11, 24, 25, 63, 64, 65, 66, 67, 68, 69, 70, 71, 72, 51, 52, 53, 54, 55, 56, 57, 58, 59, 60, 61, 62] (by decide +kernel) (by decide +kernel)
set_option maxRecDepth 20000 in
theorem gX7_markOf_X7_body22 : GoodIn wsX7_markOf (wsV RX7 279 RX7 yX7_body22 wsX7_body22) := goodIn_app (goodIn_of _ (by decide +kernel)) ggX7_markOf_X7_body22
set_option maxRecDepth 20000 in
theorem ggX7_markOf_X7_body20 : GoodIn wsX7_markOf wsX7_body20 := goodIn_r _ [24, 13, 25, 14, 15, 16, 17, 18, 19, 20, 63, 64, 65, 66, 67, 68, 69, 70, 51, 52, 53, 54, 55, 56, 57, 58, 59, 60, 61, 62, 71, 72] (by decide +kernel) (by decide +kernel)
set_option maxRecDepth 20000 in
theorem gX7_markOf_X7_body20 : GoodIn wsX7_markOf (wsV RX7 282 RX7 yX7_body20 wsX7_body20) := goodIn_app (goodIn_of _ (by decide +kernel)) ggX7_markOf_X7_body20
theorem dX7_markOf_0 : decode cX7_markOf 0 = .ok (.aload_n 1, 1) := by decide +kernel
theorem dX7_markOf_1 : decode cX7_markOf 1 = .ok (.invokevirtual 173, 3) := by decide +kernel
theorem dX7_markOf_4 : decode cX7_markOf 4 = .ok (.tableswitch 40 1 3 #[28, 28, 34], 28) := by decide +kernel
theorem dX7_markOf_32 : decode cX7_markOf 32 = .ok (.aload_n 0, 1) := by decide +kernel
theorem dX7_markOf_33 : decode cX7_markOf 33 = .ok (.aload_n 1, 1) := by decide +kernel
theorem dX7_markOf_34 : decode cX7_markOf 34 = .ok (.invokevirtual 276, 3) := by decide +kernel
theorem dX7_markOf_37 : decode cX7_markOf 37 = .ok (.ireturn, 1) := by decide +kernel
theorem dX7_markOf_38 : decode cX7_markOf 38 = .ok (.aload_n 0, 1) := by decide +kernel
theorem dX7_markOf_39 : decode cX7_markOf 39 = .ok (.aload_n 1, 1) := by decide +kernel
theorem dX7_markOf_40 : decode cX7_markOf 40 = .ok (.invokevirtual 279, 3) := by decide +kernel
theorem dX7_markOf_43 : decode cX7_markOf 43 = .ok (.ireturn, 1) := by decide +kernel
theorem dX7_markOf_44 : decode cX7_markOf 44 = .ok (.aload_n 0, 1) := by decide +kernel
theorem dX7_markOf_45 : decode cX7_markOf 45 = .ok (.aload_n 1, 1) := by decide +kernel
theorem dX7_markOf_46 : decode cX7_markOf 46 = .ok (.invokevirtual 282, 3) := by decide +kernel
theorem dX7_markOf_49 : decode cX7_markOf 49 = .ok (.ireturn, 1) := by decide +kernel
set_option maxRecDepth 20000 in
theorem ggX7_body20_X6_begin : GoodIn wsX7_body20 wsX6_begin := goodIn_r _ [7, 8, 9, 30, 31] (by decide +kernel) (by decide +kernel)
set_option maxRecDepth 20000 in
theorem gX7_body20_X6_begin : GoodIn wsX7_body20 (wsV RX7 273 RX6 yX6_begin wsX6_begin) := goodIn_app (goodIn_of _ (by decide +kernel)) ggX7_body20_X6_begin
theorem dX7_body20_0 : decode cX7_body20 0 = .ok (.aload_n 0, 1) := by decide +kernel
theorem dX7_body20_1 : decode cX7_body20 1 = .ok (.getfield 48, 3) := by decide +kernel
theorem dX7_body20_4 : decode cX7_body20 4 = .ok (.bipush 20, 2) := by decide +kernel
theorem dX7_body20_6 : decode cX7_body20 6 = .ok (.invokevirtual 273, 3) := by decide +kernel
theorem dX7_body20_9 : decode cX7_body20 9 = .ok (.aload_n 1, 1) := by decide +kernel
theorem dX7_body20_10 : decode cX7_body20 10 = .ok (.getfield 159, 3) := by decide +kernel
theorem dX7_body20_13 : decode cX7_body20 13 = .ok (.ireturn, 1) := by decide +kernel
set_option maxRecDepth 20000 in
theorem ggX7_body21_X6_begin : GoodIn wsX7_body21 wsX6_begin := goodIn_r _ [6, 7, 8, 51, 52] (by decide +kernel) (by decide +kernel)
set_option maxRecDepth 20000 in
theorem gX7_body21_X6_begin : GoodIn wsX7_body21 (wsV RX7 273 RX6 yX6_begin wsX6_begin) := goodIn_app (goodIn_of _ (by decide +kernel)) ggX7_body21_X6_begin
set_option maxRecDepth 20000 in
theorem ggX7_body21_X7_body20 : GoodIn wsX7_body21 wsX7_body20 := goodIn_r _ [13, 1, 14, 2, 3, 4, 5, 6, 7, 8, 43, 44, 45, 46, 47, 48, 49, 50, 53, 54, 55, 56, 57, 58, 59, 60, 61, 62, 63, 64, 51, 52] (by decide +kernel) (by decide +kernel)
set_option maxRecDepth 20000 in
theorem gX7_body21_X7_body20 : GoodIn wsX7_body21 (wsV RX7 282 RX7 yX7_body20 wsX7_body20) := goodIn_app (goodIn_of _ (by decide +kernel)) ggX7_body21_X7_body20
set_option maxRecDepth 20000 in
theorem ggX7_body21_X7_weightOf : GoodIn wsX7_body21 wsX7_weightOf := goodIn_r _ [18, 19, 20, 21, 22, 23, 24, 25, 26, 27, 28, 12, 29, 1, 2, 3, 4, 5, 6, 7, 8, 30, 31, 32, 33, 34, 35, 36, 37, 38, 39, 40, 41, 42, 53, 54, 55, 56, 57, 58, 59, 60, 61, 62, 63, 64, 43, 44, 45, 46, 47, 48, 49, 50, 51, 52] (by decide +kernel) (by decide +kernel)
set_option maxRecDepth 20000 in
theorem gX7_body21_X7_weightOf : GoodIn wsX7_body21 (wsV RX7 233 RX7 yX7_weightOf wsX7_weightOf) := goodIn_app (goodIn_of _ (by decide +kernel)) ggX7_body21_X7_weightOf
theorem dX7_body21_0 : decode cX7_body21 0 = .ok (.aload_n 0, 1) := by decide +kernel
theorem dX7_body21_1 : decode cX7_body21 1 = .ok (.getfield 48, 3) := by decide +kernel
theorem dX7_body21_4 : decode cX7_body21 4 = .ok (.bipush 21, 2) := by decide +kernel
theorem dX7_body21_6 : decode cX7_body21 6 = .ok (.invokevirtual 273, 3) := by decide +kernel
theorem dX7_body21_9 : decode cX7_body21 9 = .ok (.aload_n 0, 1) := by decide +kernel
theorem dX7_body21_10 : decode cX7_body21 10 = .ok (.aload_n 1, 1) := by decide +kernel
theorem dX7_body21_11 : decode cX7_body21 11 = .ok (.invokevirtual 282, 3) := by decide +kernel
theorem dX7_body21_14 : decode cX7_body21 14 = .ok (.aload_n 0, 1) := by decide +kernel
theorem dX7_body21_15 : decode cX7_body21 15 = .ok (.aload_n 1, 1) := by decide +kernel
theorem dX7_body21_16 : decode cX7_body21 16 = .ok (.invokevirtual 233, 3) := by decide +kernel
theorem dX7_body21_19 : decode cX7_body21 19 = .ok (.iadd, 1) := by decide +kernel
theorem dX7_body21_20 : decode cX7_body21 20 = .ok (.ireturn, 1) := by decide +kernel
set_option maxRecDepth 20000 in
theorem ggX7_body22_X6_begin : GoodIn wsX7_body22 wsX6_begin := goodIn_r _ [6, 7, 8, 23, 24] (by decide +kernel) (by decide +kernel)
set_option maxRecDepth 20000 in
theorem gX7_body22_X6_begin : GoodIn wsX7_body22 (wsV RX7 273 RX6 yX6_begin wsX6_begin) := goodIn_app (goodIn_of _ (by decide +kernel)) ggX7_body22_X6_begin
set_option maxRecDepth 20000 in
theorem ggX7_body22_X7_body20 : GoodIn wsX7_body22 wsX7_body20 := goodIn_r _ [13, 1, 14, 2, 3, 4, 5, 6, 7, 8, 15, 16, 17, 18, 19, 20, 21, 22, 25, 26, 27, 28, 29, 30, 31, 32, 33, 34, 35, 36, 23, 24] (by decide +kernel) (by decide +kernel)
set_option maxRecDepth 20000 in
theorem gX7_body22_X7_body20 : GoodIn wsX7_body22 (wsV RX7 282 RX7 yX7_body20 wsX7_body20) := goodIn_app (goodIn_of _ (by decide +kernel)) ggX7_body22_X7_body20
theorem dX7_body22_0 : decode cX7_body22 0 = .ok (.aload_n 0, 1) := by decide +kernel
theorem dX7_body22_1 : decode cX7_body22 1 = .ok (.getfield 48, 3) := by decide +kernel
theorem dX7_body22_4 : decode cX7_body22 4 = .ok (.bipush 22, 2) := by decide +kernel
theorem dX7_body22_6 : decode cX7_body22 6 = .ok (.invokevirtual 273, 3) := by decide +kernel
theorem dX7_body22_9 : decode cX7_body22 9 = .ok (.aload_n 0, 1) := by decide +kernel
theorem dX7_body22_10 : decode cX7_body22 10 = .ok (.aload_n 1, 1) := by decide +kernel
theorem dX7_body22_11 : decode cX7_body22 11 = .ok (.invokevirtual 282, 3) := by decide +kernel
theorem dX7_body22_14 : decode cX7_body22 14 = .ok (.sipush 1000, 3) := by decide +kernel
theorem dX7_body22_17 : decode cX7_body22 17 = .ok (.iadd, 1) := by decide +kernel
theorem dX7_body22_18 : decode cX7_body22 18 = .ok (.ireturn, 1) := by decide +kernel
