theorem dX8_step_178 : decode cX8_step 178 = .ok (.iconst 0, 1) := by decide +kernel
theorem dX8_step_179 : decode cX8_step 179 = .ok (.goto 4, 3) := by decide +kernel
theorem dX8_step_182 : decode cX8_step 182 = .ok (.iconst 3, 1) := by decide +kernel
theorem dX8_step_183 : decode cX8_step 183 = .ok (.putfield 207, 3) := by decide +kernel
theorem dX8_step_186 : decode cX8_step 186 = .ok (.goto 34, 3) := by decide +kernel
theorem dX8_step_189 : decode cX8_step 189 = .ok (.aload_n 0, 1) := by decide +kernel
theorem dX8_step_190 : decode cX8_step 190 = .ok (.dup, 1) := by decide +kernel
theorem dX8_step_191 : decode cX8_step 191 = .ok (.getfield 198, 3) := by decide +kernel
theorem dX8_step_194 : decode cX8_step 194 = .ok (.iconst 1, 1) := by decide +kernel
theorem dX8_step_195 : decode cX8_step 195 = .ok (.iadd, 1) := by decide +kernel
theorem dX8_step_196 : decode cX8_step 196 = .ok (.putfield 198, 3) := by decide +kernel
theorem dX8_step_199 : decode cX8_step 199 = .ok (.aload_n 0, 1) := by decide +kernel
theorem dX8_step_200 : decode cX8_step 200 = .ok (.iload_n 1, 1) := by decide +kernel
theorem dX8_step_201 : decode cX8_step 201 = .ok (.bipush 59, 2) := by decide +kernel
theorem dX8_step_203 : decode cX8_step 203 = .ok (.if_icmp .eq 9, 3) := by decide +kernel
theorem dX8_step_206 : decode cX8_step 206 = .ok (.iload_n 1, 1) := by decide +kernel
theorem dX8_step_207 : decode cX8_step 207 = .ok (.bipush 60, 2) := by decide +kernel
theorem dX8_step_209 : decode cX8_step 209 = .ok (.if_icmp .ne 7, 3) := by decide +kernel
theorem dX8_step_212 : decode cX8_step 212 = .ok (.iconst 4, 1) := by decide +kernel
theorem dX8_step_213 : decode cX8_step 213 = .ok (.goto 4, 3) := by decide +kernel
theorem dX8_step_216 : decode cX8_step 216 = .ok (.iconst 0, 1) := by decide +kernel
theorem dX8_step_217 : decode cX8_step 217 = .ok (.putfield 207, 3) := by decide +kernel
theorem dX8_step_220 : decode cX8_step 220 = .ok (.aload_n 0, 1) := by decide +kernel
theorem dX8_step_221 : decode cX8_step 221 = .ok (.aload_n 0, 1) := by decide +kernel
theorem dX8_step_222 : decode cX8_step 222 = .ok (.getfield 198, 3) := by decide +kernel
theorem dX8_step_225 : decode cX8_step 225 = .ok (.putfield 216, 3) := by decide +kernel
theorem dX8_step_228 : decode cX8_step 228 = .ok (.return_, 1) := by decide +kernel
theorem dX8_bad_0 : decode cX8_bad 0 = .ok (.aload_n 0, 1) := by decide +kernel
theorem dX8_bad_1 : decode cX8_bad 1 = .ok (.getfield 219, 3) := by decide +kernel
theorem dX8_bad_4 : decode cX8_bad 4 = .ok (.ifCond .ne 16, 3) := by decide +kernel
theorem dX8_bad_7 : decode cX8_bad 7 = .ok (.aload_n 0, 1) := by decide +kernel
theorem dX8_bad_8 : decode cX8_bad 8 = .ok (.iload_n 1, 1) := by decide +kernel
theorem dX8_bad_9 : decode cX8_bad 9 = .ok (.putfield 219, 3) := by decide +kernel
theorem dX8_bad_12 : decode cX8_bad 12 = .ok (.aload_n 0, 1) := by decide +kernel
theorem dX8_bad_13 : decode cX8_bad 13 = .ok (.aload_n 0, 1) := by decide +kernel
theorem dX8_bad_14 : decode cX8_bad 14 = .ok (.getfield 204, 3) := by decide +kernel
theorem dX8_bad_17 : decode cX8_bad 17 = .ok (.putfield 222, 3) := by decide +kernel
theorem dX8_bad_20 : decode cX8_bad 20 = .ok (.return_, 1) := by decide +kernel
set_option maxRecDepth 20000 in
theorem ggX8_take_X8_bad : GoodIn wsX8_take wsX8_bad := goodIn_r _ [6, 1, 7, 8, 29, 30, 31, 32, 33, 34, 35, 36, 37, 38, 39, 40, 41, 42, 43, 44, 45, 46, 47, 48, 49, 50, 51, 52, 53, 54, 55, 56, 57, 58, 59, 60, 61, 62, 63, 64, 65, 66, 67, 68, 69, 70, 71, 72, 73, 74, 75, 76] (by decide +kernel) (by decide +kernel)
set_option maxRecDepth 20000 in
theorem gX8_take_X8_bad : GoodIn wsX8_take (wsV RX8 225 RX8 yX8_bad wsX8_bad) := goodIn_app (goodIn_of _ (by decide +kernel)) ggX8_take_X8_bad
set_option maxRecDepth 20000 in
theorem ggX8_take_X8_step : GoodIn wsX8_take wsX8_step := goodIn_r _ [12, 13, 7, 14, 15, 16, 17, 18, 19, 5, 20, 21, 22, 23, 24, 25, 26, 27, 28, 29, 30, 31, 32, 33, 34, 35, 36, 37, 38, 39, 40, 41, 42, 43, 44, 45, 46, 47, 48, 49, 50, 51, 52, 53, 54, 55, 56, 57, 58, 59, 60, 61, 62, 63, 64, 65, 66, 67, 68, 69, 70, 71, 72, 73, 74, 75, 76] (by decide +kernel) (by decide +kernel)
set_option maxRecDepth 20000 in
theorem gX8_take_X8_step : GoodIn wsX8_take (wsV RX8 228 RX8 yX8_step wsX8_step) := goodIn_app (goodIn_of _ (by decide +kernel)) ggX8_take_X8_step
theorem dX8_take_0 : decode cX8_take 0 = .ok (.iload_n 1, 1) := by decide +kernel
theorem dX8_take_1 : decode cX8_take 1 = .ok (.ifCond .ne 8, 3) := by decide +kernel
theorem dX8_take_4 : decode cX8_take 4 = .ok (.aload_n 0, 1) := by decide +kernel
theorem dX8_take_5 : decode cX8_take 5 = .ok (.iconst 1, 1) := by decide +kernel
theorem dX8_take_6 : decode cX8_take 6 = .ok (.invokevirtual 225, 3) := by decide +kernel
theorem dX8_take_9 : decode cX8_take 9 = .ok (.aload_n 0, 1) := by decide +kernel
theorem dX8_take_10 : decode cX8_take 10 = .ok (.getfield 219, 3) := by decide +kernel
theorem dX8_take_13 : decode cX8_take 13 = .ok (.ifCond .ne 7, 3) := by decide +kernel
theorem dX8_take_16 : decode cX8_take 16 = .ok (.aload_n 0, 1) := by decide +kernel
theorem dX8_take_17 : decode cX8_take 17 = .ok (.invokevirtual 228, 3) := by decide +kernel
theorem dX8_take_20 : decode cX8_take 20 = .ok (.return_, 1) := by decide +kernel
theorem dX8_is_0 : decode cX8_is 0 = .ok (.aload_n 0, 1) := by decide +kernel
theorem dX8_is_1 : decode cX8_is 1 = .ok (.getfield 207, 3) := by decide +kernel
theorem dX8_is_4 : decode cX8_is 4 = .ok (.iconst 4, 1) := by decide +kernel
theorem dX8_is_5 : decode cX8_is 5 = .ok (.if_icmp .ne 20, 3) := by decide +kernel
theorem dX8_is_8 : decode cX8_is 8 = .ok (.aload_n 0, 1) := by decide +kernel
theorem dX8_is_9 : decode cX8_is 9 = .ok (.getfield 77, 3) := by decide +kernel
theorem dX8_is_12 : decode cX8_is 12 = .ok (.aload_n 0, 1) := by decide +kernel
theorem dX8_is_13 : decode cX8_is 13 = .ok (.getfield 204, 3) := by decide +kernel
theorem dX8_is_16 : decode cX8_is 16 = .ok (.iaload, 1) := by decide +kernel
theorem dX8_is_17 : decode cX8_is 17 = .ok (.iload_n 1, 1) := by decide +kernel
theorem dX8_is_18 : decode cX8_is 18 = .ok (.if_icmp .ne 7, 3) := by decide +kernel
theorem dX8_is_21 : decode cX8_is 21 = .ok (.iconst 1, 1) := by decide +kernel
theorem dX8_is_22 : decode cX8_is 22 = .ok (.goto 4, 3) := by decide +kernel
theorem dX8_is_25 : decode cX8_is 25 = .ok (.iconst 0, 1) := by decide +kernel
theorem dX8_is_26 : decode cX8_is 26 = .ok (.ireturn, 1) := by decide +kernel
theorem dX8_name_0 : decode cX8_name 0 = .ok (.lconst 0, 1) := by decide +kernel
theorem dX8_name_1 : decode cX8_name 1 = .ok (.lstore_n 1, 1) := by decide +kernel
theorem dX8_name_2 : decode cX8_name 2 = .ok (.aload_n 0, 1) := by decide +kernel
theorem dX8_name_3 : decode cX8_name 3 = .ok (.getfield 204, 3) := by decide +kernel
theorem dX8_name_6 : decode cX8_name 6 = .ok (.istore_n 3, 1) := by decide +kernel
theorem dX8_name_7 : decode cX8_name 7 = .ok (.iload_n 3, 1) := by decide +kernel
theorem dX8_name_8 : decode cX8_name 8 = .ok (.aload_n 0, 1) := by decide +kernel
theorem dX8_name_9 : decode cX8_name 9 = .ok (.getfield 216, 3) := by decide +kernel
theorem dX8_name_12 : decode cX8_name 12 = .ok (.if_icmp .ge 30, 3) := by decide +kernel
theorem dX8_name_15 : decode cX8_name 15 = .ok (.aload_n 0, 1) := by decide +kernel
theorem dX8_name_16 : decode cX8_name 16 = .ok (.getfield 207, 3) := by decide +kernel
theorem dX8_name_19 : decode cX8_name 19 = .ok (.iconst 2, 1) := by decide +kernel
theorem dX8_name_20 : decode cX8_name 20 = .ok (.if_icmp .ne 22, 3) := by decide +kernel
theorem dX8_name_23 : decode cX8_name 23 = .ok (.lload_n 1, 1) := by decide +kernel
theorem dX8_name_24 : decode cX8_name 24 = .ok (.bipush 8, 2) := by decide +kernel
theorem dX8_name_26 : decode cX8_name 26 = .ok (.lshl, 1) := by decide +kernel
theorem dX8_name_27 : decode cX8_name 27 = .ok (.aload_n 0, 1) := by decide +kernel
theorem dX8_name_28 : decode cX8_name 28 = .ok (.getfield 77, 3) := by decide +kernel
theorem dX8_name_31 : decode cX8_name 31 = .ok (.iload_n 3, 1) := by decide +kernel
theorem dX8_name_32 : decode cX8_name 32 = .ok (.iaload, 1) := by decide +kernel
theorem dX8_name_33 : decode cX8_name 33 = .ok (.i2l, 1) := by decide +kernel
theorem dX8_name_34 : decode cX8_name 34 = .ok (.lor, 1) := by decide +kernel
theorem dX8_name_35 : decode cX8_name 35 = .ok (.lstore_n 1, 1) := by decide +kernel
theorem dX8_name_36 : decode cX8_name 36 = .ok (.iinc 3 1, 3) := by decide +kernel
theorem dX8_name_39 : decode cX8_name 39 = .ok (.goto (-32), 3) := by decide +kernel
theorem dX8_name_42 : decode cX8_name 42 = .ok (.lload_n 1, 1) := by decide +kernel
theorem dX8_name_43 : decode cX8_name 43 = .ok (.lreturn, 1) := by decide +kernel
theorem dX8_number_0 : decode cX8_number 0 = .ok (.iconst 0, 1) := by decide +kernel
theorem dX8_number_1 : decode cX8_number 1 = .ok (.istore_n 1, 1) := by decide +kernel
theorem dX8_number_2 : decode cX8_number 2 = .ok (.aload_n 0, 1) := by decide +kernel
theorem dX8_number_3 : decode cX8_number 3 = .ok (.getfield 204, 3) := by decide +kernel
theorem dX8_number_6 : decode cX8_number 6 = .ok (.istore_n 2, 1) := by decide +kernel
theorem dX8_number_7 : decode cX8_number 7 = .ok (.iload_n 2, 1) := by decide +kernel
theorem dX8_number_8 : decode cX8_number 8 = .ok (.aload_n 0, 1) := by decide +kernel
theorem dX8_number_9 : decode cX8_number 9 = .ok (.getfield 216, 3) := by decide +kernel
theorem dX8_number_12 : decode cX8_number 12 = .ok (.if_icmp .ge 32, 3) := by decide +kernel
theorem dX8_number_15 : decode cX8_number 15 = .ok (.aload_n 0, 1) := by decide +kernel
theorem dX8_number_16 : decode cX8_number 16 = .ok (.getfield 207, 3) := by decide +kernel
theorem dX8_number_19 : decode cX8_number 19 = .ok (.iconst 3, 1) := by decide +kernel
theorem dX8_number_20 : decode cX8_number 20 = .ok (.if_icmp .ne 24, 3) := by decide +kernel
theorem dX8_number_23 : decode cX8_number 23 = .ok (.bipush 10, 2) := by decide +kernel
theorem dX8_number_25 : decode cX8_number 25 = .ok (.iload_n 1, 1) := by decide +kernel
theorem dX8_number_26 : decode cX8_number 26 = .ok (.imul, 1) := by decide +kernel
theorem dX8_number_27 : decode cX8_number 27 = .ok (.aload_n 0, 1) := by decide +kernel
theorem dX8_number_28 : decode cX8_number 28 = .ok (.getfield 77, 3) := by decide +kernel
theorem dX8_number_31 : decode cX8_number 31 = .ok (.iload_n 2, 1) := by decide +kernel
theorem dX8_number_32 : decode cX8_number 32 = .ok (.iaload, 1) := by decide +kernel
theorem dX8_number_33 : decode cX8_number 33 = .ok (.iadd, 1) := by decide +kernel
theorem dX8_number_34 : decode cX8_number 34 = .ok (.bipush 48, 2) := by decide +kernel
theorem dX8_number_36 : decode cX8_number 36 = .ok (.isub, 1) := by decide +kernel
theorem dX8_number_37 : decode cX8_number 37 = .ok (.istore_n 1, 1) := by decide +kernel
theorem dX8_number_38 : decode cX8_number 38 = .ok (.iinc 2 1, 3) := by decide +kernel
theorem dX8_number_41 : decode cX8_number 41 = .ok (.goto (-34), 3) := by decide +kernel
theorem dX8_number_44 : decode cX8_number 44 = .ok (.iload_n 1, 1) := by decide +kernel
theorem dX8_number_45 : decode cX8_number 45 = .ok (.ireturn, 1) := by decide +kernel
set_option maxRecDepth 20000 in
theorem ggX8_readOne_X8_name : GoodIn wsX8_readOne wsX8_name := goodIn_r _ [16, 17, 18, 3, 19, 62, 63, 64, 65, 66, 67, 68, 69, 70, 71, 72, 73, 74, 75, 76, 77, 78, 79, 80, 81, 82, 83, 84, 85, 86, 87, 88, 89, 90, 91, 92, 93, 94, 95, 96, 97, 98, 99, 100, 101, 102, 103, 104, 105, 106, 107, 108, 109] (by decide +kernel) (by decide +kernel)
set_option maxRecDepth 20000 in
theorem gX8_readOne_X8_name : GoodIn wsX8_readOne (wsV RX8 231 RX8 yX8_name wsX8_name) := goodIn_app (goodIn_of _ (by decide +kernel)) ggX8_readOne_X8_name
set_option maxRecDepth 20000 in
theorem ggX8_readOne_X8_take : GoodIn wsX8_readOne wsX8_take := goodIn_r _ [23, 2, 24, 25, 26, 15, 27, 17, 28, 29, 30, 31, 32, 33, 34, 3, 18, 35, 36, 37, 38, 39, 19, 40, 41, 42, 43, 44, 45, 62, 63, 64, 65, 66, 67, 68, 69, 70, 71, 72, 73, 74, 75, 76, 77, 78, 79, 80, 81, 82, 83, 84, 85, 86, 87, 88, 89, 90, 91, 92, 93, 94, 95, 96, 97, 98, 99, 100, 101, 102, 103, 104, 105, 106, 107, 108, 109] (by decide +kernel) (by decide +kernel)
set_option maxRecDepth 20000 in
theorem gX8_readOne_X8_take : GoodIn wsX8_readOne (wsV RX8 237 RX8 yX8_take wsX8_take) := goodIn_app (goodIn_of _ (by decide +kernel)) ggX8_readOne_X8_take
set_option maxRecDepth 20000 in
theorem ggX8_readOne_X8_number : GoodIn wsX8_readOne wsX8_number := goodIn_r _ [49, 17, 18, 3, 19, 62, 63, 64, 65, 66, 67, 68, 69, 70, 71, 72, 73, 74, 75, 76, 77, 78, 79, 80, 81, 82, 83, 84, 85, 86, 87, 88, 89, 90, 91, 92, 93, 94, 95, 96, 97, 98, 99, 100, 101, 102, 103, 104, 105, 106, 107, 108, 109] (by decide +kernel) (by decide +kernel)
set_option maxRecDepth 20000 in
theorem gX8_readOne_X8_number : GoodIn wsX8_readOne (wsV RX8 241 RX8 yX8_number wsX8_number) := goodIn_app (goodIn_of _ (by decide +kernel)) ggX8_readOne_X8_number
set_option maxRecDepth 20000 in
theorem ggX8_readOne_X8_isDial : GoodIn wsX8_readOne wsX8_isDial := goodIn_r _ [53, 54, 55, 56, 15, 57, 62, 63, 64, 65, 66, 67, 68, 69, 70, 71, 72, 73, 74, 75, 76, 77, 78, 79, 80, 81, 82, 83, 84, 85, 86, 87, 88, 89, 90, 91, 92, 93, 94, 95, 96, 97, 98, 99, 100, 101, 102, 103, 104, 105, 106, 107, 108, 109] (by decide +kernel) (by decide +kernel)
set_option maxRecDepth 20000 in
theorem gX8_readOne_X8_isDial : GoodIn wsX8_readOne (wsV RX8 157 RX8 yX8_isDial wsX8_isDial) := goodIn_app (goodIn_of _ (by decide +kernel)) ggX8_readOne_X8_isDial
set_option maxRecDepth 20000 in
theorem ggX8_readOne_X8_bad : GoodIn wsX8_readOne wsX8_bad := goodIn_r _ [27, 2, 17, 28, 62, 63, 64, 65, 66, 67, 68, 69, 70, 71, 72, 73, 74, 75, 76, 77, 78, 79, 80, 81, 82, 83, 84, 85, 86, 87, 88, 89, 90, 91, 92, 93, 94, 95, 96, 97, 98, 99, 100, 101, 102, 103, 104, 105, 106, 107, 108, 109] (by decide +kernel) (by decide +kernel)
set_option maxRecDepth 20000 in
theorem gX8_readOne_X8_bad : GoodIn wsX8_readOne (wsV RX8 225 RX8 yX8_bad wsX8_bad) := goodIn_app (goodIn_of _ (by decide +kernel)) ggX8_readOne_X8_bad
set_option maxRecDepth 20000 in
theorem ggX8_readOne_X8_is : GoodIn wsX8_readOne wsX8_is := goodIn_r _ [61, 3, 19, 17, 62, 63, 64, 65, 66, 67, 68, 69, 70, 71, 72, 73, 74, 75, 76, 77, 78, 79, 80, 81, 82, 83, 84, 85, 86, 87, 88, 89, 90, 91, 92, 93, 94, 95, 96, 97, 98, 99, 100, 101, 102, 103, 104, 105, 106, 107, 108, 109] (by decide +kernel) (by decide +kernel)
set_option maxRecDepth 20000 in
theorem gX8_readOne_X8_is : GoodIn wsX8_readOne (wsV RX8 251 RX8 yX8_is wsX8_is) := goodIn_app (goodIn_of _ (by decide +kernel)) ggX8_readOne_X8_is
theorem dX8_readOne_0 : decode cX8_readOne 0 = .ok (.aload_n 0, 1) := by decide +kernel
theorem dX8_readOne_1 : decode cX8_readOne 1 = .ok (.aload_n 0, 1) := by decide +kernel
theorem dX8_readOne_2 : decode cX8_readOne 2 = .ok (.invokevirtual 231, 3) := by decide +kernel
theorem dX8_readOne_5 : decode cX8_readOne 5 = .ok (.ldc2_w 235, 3) := by decide +kernel
theorem dX8_readOne_8 : decode cX8_readOne 8 = .ok (.lcmp, 1) := by decide +kernel
theorem dX8_readOne_9 : decode cX8_readOne 9 = .ok (.ifCond .ne 7, 3) := by decide +kernel
theorem dX8_readOne_12 : decode cX8_readOne 12 = .ok (.iconst 1, 1) := by decide +kernel
theorem dX8_readOne_13 : decode cX8_readOne 13 = .ok (.goto 4, 3) := by decide +kernel
theorem dX8_readOne_16 : decode cX8_readOne 16 = .ok (.iconst 0, 1) := by decide +kernel
theorem dX8_readOne_17 : decode cX8_readOne 17 = .ok (.invokevirtual 237, 3) := by decide +kernel
theorem dX8_readOne_20 : decode cX8_readOne 20 = .ok (.aload_n 0, 1) := by decide +kernel
theorem dX8_readOne_21 : decode cX8_readOne 21 = .ok (.getfield 219, 3) := by decide +kernel
theorem dX8_readOne_24 : decode cX8_readOne 24 = .ok (.ifCond .ne 27, 3) := by decide +kernel
theorem dX8_readOne_27 : decode cX8_readOne 27 = .ok (.aload_n 0, 1) := by decide +kernel
theorem dX8_readOne_28 : decode cX8_readOne 28 = .ok (.getfield 207, 3) := by decide +kernel
theorem dX8_readOne_31 : decode cX8_readOne 31 = .ok (.iconst 3, 1) := by decide +kernel
theorem dX8_readOne_32 : decode cX8_readOne 32 = .ok (.if_icmp .ne 19, 3) := by decide +kernel
theorem dX8_readOne_35 : decode cX8_readOne 35 = .ok (.aload_n 0, 1) := by decide +kernel
theorem dX8_readOne_36 : decode cX8_readOne 36 = .ok (.aload_n 0, 1) := by decide +kernel
theorem dX8_readOne_37 : decode cX8_readOne 37 = .ok (.invokevirtual 241, 3) := by decide +kernel
theorem dX8_readOne_40 : decode cX8_readOne 40 = .ok (.invokevirtual 157, 3) := by decide +kernel
theorem dX8_readOne_43 : decode cX8_readOne 43 = .ok (.ifCond .ne 8, 3) := by decide +kernel
theorem dX8_readOne_46 : decode cX8_readOne 46 = .ok (.aload_n 0, 1) := by decide +kernel
theorem dX8_readOne_47 : decode cX8_readOne 47 = .ok (.iconst 2, 1) := by decide +kernel
theorem dX8_readOne_48 : decode cX8_readOne 48 = .ok (.invokevirtual 225, 3) := by decide +kernel
theorem dX8_readOne_51 : decode cX8_readOne 51 = .ok (.aload_n 0, 1) := by decide +kernel
theorem dX8_readOne_52 : decode cX8_readOne 52 = .ok (.invokevirtual 241, 3) := by decide +kernel
theorem dX8_readOne_55 : decode cX8_readOne 55 = .ok (.istore_n 1, 1) := by decide +kernel
theorem dX8_readOne_56 : decode cX8_readOne 56 = .ok (.aload_n 0, 1) := by decide +kernel
theorem dX8_readOne_57 : decode cX8_readOne 57 = .ok (.aload_n 0, 1) := by decide +kernel
theorem dX8_readOne_58 : decode cX8_readOne 58 = .ok (.getfield 207, 3) := by decide +kernel
theorem dX8_readOne_61 : decode cX8_readOne 61 = .ok (.iconst 3, 1) := by decide +kernel
theorem dX8_readOne_62 : decode cX8_readOne 62 = .ok (.if_icmp .ne 7, 3) := by decide +kernel
theorem dX8_readOne_65 : decode cX8_readOne 65 = .ok (.iconst 1, 1) := by decide +kernel
theorem dX8_readOne_66 : decode cX8_readOne 66 = .ok (.goto 4, 3) := by decide +kernel
theorem dX8_readOne_69 : decode cX8_readOne 69 = .ok (.iconst 0, 1) := by decide +kernel
theorem dX8_readOne_70 : decode cX8_readOne 70 = .ok (.invokevirtual 237, 3) := by decide +kernel
theorem dX8_readOne_73 : decode cX8_readOne 73 = .ok (.aload_n 0, 1) := by decide +kernel
theorem dX8_readOne_74 : decode cX8_readOne 74 = .ok (.invokevirtual 231, 3) := by decide +kernel
theorem dX8_readOne_77 : decode cX8_readOne 77 = .ok (.lstore_n 2, 1) := by decide +kernel
theorem dX8_readOne_78 : decode cX8_readOne 78 = .ok (.lload_n 2, 1) := by decide +kernel
theorem dX8_readOne_79 : decode cX8_readOne 79 = .ok (.ldc2_w 245, 3) := by decide +kernel
theorem dX8_readOne_82 : decode cX8_readOne 82 = .ok (.lcmp, 1) := by decide +kernel
theorem dX8_readOne_83 : decode cX8_readOne 83 = .ok (.ifCond .ne 7, 3) := by decide +kernel
theorem dX8_readOne_86 : decode cX8_readOne 86 = .ok (.iconst 1, 1) := by decide +kernel
theorem dX8_readOne_87 : decode cX8_readOne 87 = .ok (.goto 28, 3) := by decide +kernel
theorem dX8_readOne_90 : decode cX8_readOne 90 = .ok (.lload_n 2, 1) := by decide +kernel
theorem dX8_readOne_91 : decode cX8_readOne 91 = .ok (.ldc2_w 247, 3) := by decide +kernel
theorem dX8_readOne_94 : decode cX8_readOne 94 = .ok (.lcmp, 1) := by decide +kernel
theorem dX8_readOne_95 : decode cX8_readOne 95 = .ok (.ifCond .ne 7, 3) := by decide +kernel
theorem dX8_readOne_98 : decode cX8_readOne 98 = .ok (.iconst 2, 1) := by decide +kernel
theorem dX8_readOne_99 : decode cX8_readOne 99 = .ok (.goto 16, 3) := by decide +kernel
theorem dX8_readOne_102 : decode cX8_readOne 102 = .ok (.lload_n 2, 1) := by decide +kernel
theorem dX8_readOne_103 : decode cX8_readOne 103 = .ok (.ldc2_w 249, 3) := by decide +kernel
theorem dX8_readOne_106 : decode cX8_readOne 106 = .ok (.lcmp, 1) := by decide +kernel
theorem dX8_readOne_107 : decode cX8_readOne 107 = .ok (.ifCond .ne 7, 3) := by decide +kernel
theorem dX8_readOne_110 : decode cX8_readOne 110 = .ok (.iconst 3, 1) := by decide +kernel
theorem dX8_readOne_111 : decode cX8_readOne 111 = .ok (.goto 4, 3) := by decide +kernel
theorem dX8_readOne_114 : decode cX8_readOne 114 = .ok (.iconst 0, 1) := by decide +kernel
theorem dX8_readOne_115 : decode cX8_readOne 115 = .ok (.istore 4, 2) := by decide +kernel
theorem dX8_readOne_117 : decode cX8_readOne 117 = .ok (.aload_n 0, 1) := by decide +kernel
theorem dX8_readOne_118 : decode cX8_readOne 118 = .ok (.iload 4, 2) := by decide +kernel
theorem dX8_readOne_120 : decode cX8_readOne 120 = .ok (.ifCond .le 7, 3) := by decide +kernel
theorem dX8_readOne_123 : decode cX8_readOne 123 = .ok (.iconst 1, 1) := by decide +kernel
theorem dX8_readOne_124 : decode cX8_readOne 124 = .ok (.goto 4, 3) := by decide +kernel
theorem dX8_readOne_127 : decode cX8_readOne 127 = .ok (.iconst 0, 1) := by decide +kernel
theorem dX8_readOne_128 : decode cX8_readOne 128 = .ok (.invokevirtual 237, 3) := by decide +kernel
theorem dX8_readOne_131 : decode cX8_readOne 131 = .ok (.iload 4, 2) := by decide +kernel
theorem dX8_readOne_133 : decode cX8_readOne 133 = .ok (.iconst 3, 1) := by decide +kernel
theorem dX8_readOne_134 : decode cX8_readOne 134 = .ok (.if_icmp .ne 13, 3) := by decide +kernel
theorem dX8_readOne_137 : decode cX8_readOne 137 = .ok (.aload_n 0, 1) := by decide +kernel
theorem dX8_readOne_138 : decode cX8_readOne 138 = .ok (.aload_n 0, 1) := by decide +kernel
theorem dX8_readOne_139 : decode cX8_readOne 139 = .ok (.bipush 60, 2) := by decide +kernel
theorem dX8_readOne_141 : decode cX8_readOne 141 = .ok (.invokevirtual 251, 3) := by decide +kernel
theorem dX8_readOne_144 : decode cX8_readOne 144 = .ok (.invokevirtual 237, 3) := by decide +kernel
theorem dX8_readOne_147 : decode cX8_readOne 147 = .ok (.aload_n 0, 1) := by decide +kernel
theorem dX8_readOne_148 : decode cX8_readOne 148 = .ok (.invokevirtual 241, 3) := by decide +kernel
theorem dX8_readOne_151 : decode cX8_readOne 151 = .ok (.istore 5, 2) := by decide +kernel
theorem dX8_readOne_153 : decode cX8_readOne 153 = .ok (.aload_n 0, 1) := by decide +kernel
theorem dX8_readOne_154 : decode cX8_readOne 154 = .ok (.aload_n 0, 1) := by decide +kernel
theorem dX8_readOne_155 : decode cX8_readOne 155 = .ok (.getfield 207, 3) := by decide +kernel
theorem dX8_readOne_158 : decode cX8_readOne 158 = .ok (.iconst 3, 1) := by decide +kernel
theorem dX8_readOne_159 : decode cX8_readOne 159 = .ok (.if_icmp .ne 7, 3) := by decide +kernel
theorem dX8_readOne_162 : decode cX8_readOne 162 = .ok (.iconst 1, 1) := by decide +kernel
theorem dX8_readOne_163 : decode cX8_readOne 163 = .ok (.goto 4, 3) := by decide +kernel
theorem dX8_readOne_166 : decode cX8_readOne 166 = .ok (.iconst 0, 1) := by decide +kernel
theorem dX8_readOne_167 : decode cX8_readOne 167 = .ok (.invokevirtual 237, 3) := by decide +kernel
theorem dX8_readOne_170 : decode cX8_readOne 170 = .ok (.iload 4, 2) := by decide +kernel
theorem dX8_readOne_172 : decode cX8_readOne 172 = .ok (.iconst 3, 1) := by decide +kernel
theorem dX8_readOne_173 : decode cX8_readOne 173 = .ok (.if_icmp .ne 10, 3) := by decide +kernel
theorem dX8_readOne_176 : decode cX8_readOne 176 = .ok (.aload_n 0, 1) := by decide +kernel
theorem dX8_readOne_177 : decode cX8_readOne 177 = .ok (.invokevirtual 241, 3) := by decide +kernel
theorem dX8_readOne_180 : decode cX8_readOne 180 = .ok (.goto 4, 3) := by decide +kernel
theorem dX8_readOne_183 : decode cX8_readOne 183 = .ok (.iconst 0, 1) := by decide +kernel
theorem dX8_readOne_184 : decode cX8_readOne 184 = .ok (.istore 6, 2) := by decide +kernel
theorem dX8_readOne_186 : decode cX8_readOne 186 = .ok (.iload 4, 2) := by decide +kernel
theorem dX8_readOne_188 : decode cX8_readOne 188 = .ok (.iconst 3, 1) := by decide +kernel
theorem dX8_readOne_189 : decode cX8_readOne 189 = .ok (.if_icmp .ne 20, 3) := by decide +kernel
theorem dX8_readOne_192 : decode cX8_readOne 192 = .ok (.aload_n 0, 1) := by decide +kernel
theorem dX8_readOne_193 : decode cX8_readOne 193 = .ok (.aload_n 0, 1) := by decide +kernel
theorem dX8_readOne_194 : decode cX8_readOne 194 = .ok (.getfield 207, 3) := by decide +kernel
theorem dX8_readOne_197 : decode cX8_readOne 197 = .ok (.iconst 3, 1) := by decide +kernel
theorem dX8_readOne_198 : decode cX8_readOne 198 = .ok (.if_icmp .ne 7, 3) := by decide +kernel
theorem dX8_readOne_201 : decode cX8_readOne 201 = .ok (.iconst 1, 1) := by decide +kernel
theorem dX8_readOne_202 : decode cX8_readOne 202 = .ok (.goto 4, 3) := by decide +kernel
theorem dX8_readOne_205 : decode cX8_readOne 205 = .ok (.iconst 0, 1) := by decide +kernel
theorem dX8_readOne_206 : decode cX8_readOne 206 = .ok (.invokevirtual 237, 3) := by decide +kernel
theorem dX8_readOne_209 : decode cX8_readOne 209 = .ok (.aload_n 0, 1) := by decide +kernel
theorem dX8_readOne_210 : decode cX8_readOne 210 = .ok (.aload_n 0, 1) := by decide +kernel
theorem dX8_readOne_211 : decode cX8_readOne 211 = .ok (.bipush 59, 2) := by decide +kernel
theorem dX8_readOne_213 : decode cX8_readOne 213 = .ok (.invokevirtual 251, 3) := by decide +kernel
theorem dX8_readOne_216 : decode cX8_readOne 216 = .ok (.invokevirtual 237, 3) := by decide +kernel
theorem dX8_readOne_219 : decode cX8_readOne 219 = .ok (.aload_n 0, 1) := by decide +kernel
theorem dX8_readOne_220 : decode cX8_readOne 220 = .ok (.getfield 219, 3) := by decide +kernel
theorem dX8_readOne_223 : decode cX8_readOne 223 = .ok (.ifCond .ne 56, 3) := by decide +kernel
theorem dX8_readOne_226 : decode cX8_readOne 226 = .ok (.aload_n 0, 1) := by decide +kernel
theorem dX8_readOne_227 : decode cX8_readOne 227 = .ok (.getfield 80, 3) := by decide +kernel
theorem dX8_readOne_230 : decode cX8_readOne 230 = .ok (.aload_n 0, 1) := by decide +kernel
theorem dX8_readOne_231 : decode cX8_readOne 231 = .ok (.getfield 254, 3) := by decide +kernel
theorem dX8_readOne_234 : decode cX8_readOne 234 = .ok (.iload_n 1, 1) := by decide +kernel
theorem dX8_readOne_235 : decode cX8_readOne 235 = .ok (.iastore, 1) := by decide +kernel
theorem dX8_readOne_236 : decode cX8_readOne 236 = .ok (.aload_n 0, 1) := by decide +kernel
theorem dX8_readOne_237 : decode cX8_readOne 237 = .ok (.getfield 83, 3) := by decide +kernel
theorem dX8_readOne_240 : decode cX8_readOne 240 = .ok (.aload_n 0, 1) := by decide +kernel
theorem dX8_readOne_241 : decode cX8_readOne 241 = .ok (.getfield 254, 3) := by decide +kernel
theorem dX8_readOne_244 : decode cX8_readOne 244 = .ok (.iload 4, 2) := by decide +kernel
theorem dX8_readOne_246 : decode cX8_readOne 246 = .ok (.iastore, 1) := by decide +kernel
theorem dX8_readOne_247 : decode cX8_readOne 247 = .ok (.aload_n 0, 1) := by decide +kernel
theorem dX8_readOne_248 : decode cX8_readOne 248 = .ok (.getfield 86, 3) := by decide +kernel
theorem dX8_readOne_251 : decode cX8_readOne 251 = .ok (.aload_n 0, 1) := by decide +kernel
theorem dX8_readOne_252 : decode cX8_readOne 252 = .ok (.getfield 254, 3) := by decide +kernel
theorem dX8_readOne_255 : decode cX8_readOne 255 = .ok (.iload 5, 2) := by decide +kernel
theorem dX8_readOne_257 : decode cX8_readOne 257 = .ok (.iastore, 1) := by decide +kernel
theorem dX8_readOne_258 : decode cX8_readOne 258 = .ok (.aload_n 0, 1) := by decide +kernel
theorem dX8_readOne_259 : decode cX8_readOne 259 = .ok (.getfield 89, 3) := by decide +kernel
theorem dX8_readOne_262 : decode cX8_readOne 262 = .ok (.aload_n 0, 1) := by decide +kernel
theorem dX8_readOne_263 : decode cX8_readOne 263 = .ok (.getfield 254, 3) := by decide +kernel
theorem dX8_readOne_266 : decode cX8_readOne 266 = .ok (.iload 6, 2) := by decide +kernel
theorem dX8_readOne_268 : decode cX8_readOne 268 = .ok (.iastore, 1) := by decide +kernel
theorem dX8_readOne_269 : decode cX8_readOne 269 = .ok (.aload_n 0, 1) := by decide +kernel
theorem dX8_readOne_270 : decode cX8_readOne 270 = .ok (.dup, 1) := by decide +kernel
theorem dX8_readOne_271 : decode cX8_readOne 271 = .ok (.getfield 254, 3) := by decide +kernel
theorem dX8_readOne_274 : decode cX8_readOne 274 = .ok (.iconst 1, 1) := by decide +kernel
theorem dX8_readOne_275 : decode cX8_readOne 275 = .ok (.iadd, 1) := by decide +kernel
theorem dX8_readOne_276 : decode cX8_readOne 276 = .ok (.putfield 254, 3) := by decide +kernel
theorem dX8_readOne_279 : decode cX8_readOne 279 = .ok (.return_, 1) := by decide +kernel
set_option maxRecDepth 20000 in
theorem ggX8_contracts_X8_step : GoodIn wsX8_contracts wsX8_step := goodIn_r _ [23, 4, 24, 25, 7, 26, 27, 28, 29, 22, 30, 3, 31, 32, 33, 34, 35, 36, 37, 74, 75, 76, 77, 78, 79, 80, 81, 82, 83, 84, 85, 86, 87, 88, 89, 90, 91, 92, 93, 94, 95, 96, 97, 98, 99, 100, 101, 102, 103, 104, 105, 106, 107, 108, 109, 110, 111, 112, 113, 114, 115, 116, 117, 118, 119, 120, 121] (by decide +kernel) (by decide +kernel)
set_option maxRecDepth 20000 in
theorem gX8_contracts_X8_step : GoodIn wsX8_contracts (wsV RX8 228 RX8 yX8_step wsX8_step) := goodIn_app (goodIn_of _ (by decide +kernel)) ggX8_contracts_X8_step
set_option maxRecDepth 20000 in
theorem ggX8_contracts_X8_readOne : GoodIn wsX8_contracts wsX8_readOne := goodIn_r _ [41, 42, 5, 7, 43, 44, 45, 11, 6, 13, 15, 17, 46, 47, 48, 22, 49, 24, 26, 31, 50, 51, 52, 53, 54, 55, 56, 57, 10, 19, 20, 21, 23, 4, 25, 27, 28, 29, 30, 3, 32, 33, 34, 35, 36, 37, 58, 59, 60, 61, 62, 63, 64, 65, 66, 67, 68, 69, 70, 71, 72, 73, 74, 75, 76, 77, 78, 79, 80, 81, 82, 83, 84, 85, 86, 87, 88, 89, 90, 91, 92, 93, 94, 95, 96, 97, 98, 99, 100, 101, 102, 103, 104, 105, 106, 107, 108, 109, 110, 111, 112, 113, 114, 115, 116, 117, 118, 119, 120, 121] (by decide +kernel) (by decide +kernel)
set_option maxRecDepth 20000 in
theorem gX8_contracts_X8_readOne : GoodIn wsX8_contracts (wsV RX8 257 RX8 yX8_readOne wsX8_readOne) := goodIn_app (goodIn_of _ (by decide +kernel)) ggX8_contracts_X8_readOne
theorem dX8_contracts_0 : decode cX8_contracts 0 = .ok (.aload_n 0, 1) := by decide +kernel
theorem dX8_contracts_1 : decode cX8_contracts 1 = .ok (.iconst 0, 1) := by decide +kernel
theorem dX8_contracts_2 : decode cX8_contracts 2 = .ok (.putfield 95, 3) := by decide +kernel
theorem dX8_contracts_5 : decode cX8_contracts 5 = .ok (.aload_n 0, 1) := by decide +kernel
theorem dX8_contracts_6 : decode cX8_contracts 6 = .ok (.aload_n 0, 1) := by decide +kernel
theorem dX8_contracts_7 : decode cX8_contracts 7 = .ok (.getfield 191, 3) := by decide +kernel
theorem dX8_contracts_10 : decode cX8_contracts 10 = .ok (.putfield 196, 3) := by decide +kernel
theorem dX8_contracts_13 : decode cX8_contracts 13 = .ok (.aload_n 0, 1) := by decide +kernel
theorem dX8_contracts_14 : decode cX8_contracts 14 = .ok (.iconst 0, 1) := by decide +kernel
theorem dX8_contracts_15 : decode cX8_contracts 15 = .ok (.putfield 191, 3) := by decide +kernel
theorem dX8_contracts_18 : decode cX8_contracts 18 = .ok (.aload_n 0, 1) := by decide +kernel
theorem dX8_contracts_19 : decode cX8_contracts 19 = .ok (.iconst 0, 1) := by decide +kernel
theorem dX8_contracts_20 : decode cX8_contracts 20 = .ok (.putfield 198, 3) := by decide +kernel
theorem dX8_contracts_23 : decode cX8_contracts 23 = .ok (.aload_n 0, 1) := by decide +kernel
theorem dX8_contracts_24 : decode cX8_contracts 24 = .ok (.iconst 0, 1) := by decide +kernel
theorem dX8_contracts_25 : decode cX8_contracts 25 = .ok (.putfield 219, 3) := by decide +kernel
theorem dX8_contracts_28 : decode cX8_contracts 28 = .ok (.aload_n 0, 1) := by decide +kernel
theorem dX8_contracts_29 : decode cX8_contracts 29 = .ok (.iconst 0, 1) := by decide +kernel
theorem dX8_contracts_30 : decode cX8_contracts 30 = .ok (.putfield 254, 3) := by decide +kernel
theorem dX8_contracts_33 : decode cX8_contracts 33 = .ok (.aload_n 0, 1) := by decide +kernel
theorem dX8_contracts_34 : decode cX8_contracts 34 = .ok (.invokevirtual 228, 3) := by decide +kernel
theorem dX8_contracts_37 : decode cX8_contracts 37 = .ok (.aload_n 0, 1) := by decide +kernel
theorem dX8_contracts_38 : decode cX8_contracts 38 = .ok (.getfield 219, 3) := by decide +kernel
theorem dX8_contracts_41 : decode cX8_contracts 41 = .ok (.ifCond .ne 18, 3) := by decide +kernel
theorem dX8_contracts_44 : decode cX8_contracts 44 = .ok (.aload_n 0, 1) := by decide +kernel
theorem dX8_contracts_45 : decode cX8_contracts 45 = .ok (.getfield 207, 3) := by decide +kernel
theorem dX8_contracts_48 : decode cX8_contracts 48 = .ok (.iconst 1, 1) := by decide +kernel
theorem dX8_contracts_49 : decode cX8_contracts 49 = .ok (.if_icmp .eq 10, 3) := by decide +kernel
theorem dX8_contracts_52 : decode cX8_contracts 52 = .ok (.aload_n 0, 1) := by decide +kernel
theorem dX8_contracts_53 : decode cX8_contracts 53 = .ok (.invokevirtual 257, 3) := by decide +kernel
theorem dX8_contracts_56 : decode cX8_contracts 56 = .ok (.goto (-19), 3) := by decide +kernel
theorem dX8_contracts_59 : decode cX8_contracts 59 = .ok (.aload_n 0, 1) := by decide +kernel
theorem dX8_contracts_60 : decode cX8_contracts 60 = .ok (.getfield 219, 3) := by decide +kernel
theorem dX8_contracts_63 : decode cX8_contracts 63 = .ok (.ifCond .le 20, 3) := by decide +kernel
theorem dX8_contracts_66 : decode cX8_contracts 66 = .ok (.aload_n 0, 1) := by decide +kernel
theorem dX8_contracts_67 : decode cX8_contracts 67 = .ok (.aload_n 0, 1) := by decide +kernel
theorem dX8_contracts_68 : decode cX8_contracts 68 = .ok (.getfield 219, 3) := by decide +kernel
theorem dX8_contracts_71 : decode cX8_contracts 71 = .ok (.putfield 260, 3) := by decide +kernel
theorem dX8_contracts_74 : decode cX8_contracts 74 = .ok (.ldc_w 263, 3) := by decide +kernel
theorem dX8_contracts_77 : decode cX8_contracts 77 = .ok (.aload_n 0, 1) := by decide +kernel
theorem dX8_contracts_78 : decode cX8_contracts 78 = .ok (.getfield 222, 3) := by decide +kernel
theorem dX8_contracts_81 : decode cX8_contracts 81 = .ok (.isub, 1) := by decide +kernel
theorem dX8_contracts_82 : decode cX8_contracts 82 = .ok (.ireturn, 1) := by decide +kernel
theorem dX8_contracts_83 : decode cX8_contracts 83 = .ok (.iconst 0, 1) := by decide +kernel
theorem dX8_contracts_84 : decode cX8_contracts 84 = .ok (.istore_n 1, 1) := by decide +kernel
theorem dX8_contracts_85 : decode cX8_contracts 85 = .ok (.iload_n 1, 1) := by decide +kernel
theorem dX8_contracts_86 : decode cX8_contracts 86 = .ok (.aload_n 0, 1) := by decide +kernel
theorem dX8_contracts_87 : decode cX8_contracts 87 = .ok (.getfield 254, 3) := by decide +kernel
theorem dX8_contracts_90 : decode cX8_contracts 90 = .ok (.if_icmp .ge 59, 3) := by decide +kernel
theorem dX8_contracts_93 : decode cX8_contracts 93 = .ok (.aload_n 0, 1) := by decide +kernel
theorem dX8_contracts_94 : decode cX8_contracts 94 = .ok (.getfield 80, 3) := by decide +kernel
theorem dX8_contracts_97 : decode cX8_contracts 97 = .ok (.iload_n 1, 1) := by decide +kernel
theorem dX8_contracts_98 : decode cX8_contracts 98 = .ok (.iaload, 1) := by decide +kernel
theorem dX8_contracts_99 : decode cX8_contracts 99 = .ok (.istore_n 2, 1) := by decide +kernel
theorem dX8_contracts_100 : decode cX8_contracts 100 = .ok (.aload_n 0, 1) := by decide +kernel
theorem dX8_contracts_101 : decode cX8_contracts 101 = .ok (.getfield 53, 3) := by decide +kernel
theorem dX8_contracts_104 : decode cX8_contracts 104 = .ok (.iload_n 2, 1) := by decide +kernel
theorem dX8_contracts_105 : decode cX8_contracts 105 = .ok (.aload_n 0, 1) := by decide +kernel
theorem dX8_contracts_106 : decode cX8_contracts 106 = .ok (.getfield 83, 3) := by decide +kernel
theorem dX8_contracts_109 : decode cX8_contracts 109 = .ok (.iload_n 1, 1) := by decide +kernel
theorem dX8_contracts_110 : decode cX8_contracts 110 = .ok (.iaload, 1) := by decide +kernel
theorem dX8_contracts_111 : decode cX8_contracts 111 = .ok (.iastore, 1) := by decide +kernel
theorem dX8_contracts_112 : decode cX8_contracts 112 = .ok (.aload_n 0, 1) := by decide +kernel
theorem dX8_contracts_113 : decode cX8_contracts 113 = .ok (.getfield 56, 3) := by decide +kernel
theorem dX8_contracts_116 : decode cX8_contracts 116 = .ok (.iload_n 2, 1) := by decide +kernel
theorem dX8_contracts_117 : decode cX8_contracts 117 = .ok (.aload_n 0, 1) := by decide +kernel
theorem dX8_contracts_118 : decode cX8_contracts 118 = .ok (.getfield 86, 3) := by decide +kernel
theorem dX8_contracts_121 : decode cX8_contracts 121 = .ok (.iload_n 1, 1) := by decide +kernel
theorem dX8_contracts_122 : decode cX8_contracts 122 = .ok (.iaload, 1) := by decide +kernel
theorem dX8_contracts_123 : decode cX8_contracts 123 = .ok (.iastore, 1) := by decide +kernel
theorem dX8_contracts_124 : decode cX8_contracts 124 = .ok (.aload_n 0, 1) := by decide +kernel
theorem dX8_contracts_125 : decode cX8_contracts 125 = .ok (.getfield 59, 3) := by decide +kernel
theorem dX8_contracts_128 : decode cX8_contracts 128 = .ok (.iload_n 2, 1) := by decide +kernel
theorem dX8_contracts_129 : decode cX8_contracts 129 = .ok (.aload_n 0, 1) := by decide +kernel
theorem dX8_contracts_130 : decode cX8_contracts 130 = .ok (.getfield 89, 3) := by decide +kernel
theorem dX8_contracts_133 : decode cX8_contracts 133 = .ok (.iload_n 1, 1) := by decide +kernel
theorem dX8_contracts_134 : decode cX8_contracts 134 = .ok (.iaload, 1) := by decide +kernel
theorem dX8_contracts_135 : decode cX8_contracts 135 = .ok (.iastore, 1) := by decide +kernel
theorem dX8_contracts_136 : decode cX8_contracts 136 = .ok (.aload_n 0, 1) := by decide +kernel
theorem dX8_contracts_137 : decode cX8_contracts 137 = .ok (.getfield 62, 3) := by decide +kernel
theorem dX8_contracts_140 : decode cX8_contracts 140 = .ok (.iload_n 2, 1) := by decide +kernel
theorem dX8_contracts_141 : decode cX8_contracts 141 = .ok (.iconst 0, 1) := by decide +kernel
theorem dX8_contracts_142 : decode cX8_contracts 142 = .ok (.iastore, 1) := by decide +kernel
theorem dX8_contracts_143 : decode cX8_contracts 143 = .ok (.iinc 1 1, 3) := by decide +kernel
theorem dX8_contracts_146 : decode cX8_contracts 146 = .ok (.goto (-61), 3) := by decide +kernel
theorem dX8_contracts_149 : decode cX8_contracts 149 = .ok (.aload_n 0, 1) := by decide +kernel
theorem dX8_contracts_150 : decode cX8_contracts 150 = .ok (.getfield 254, 3) := by decide +kernel
theorem dX8_contracts_153 : decode cX8_contracts 153 = .ok (.ireturn, 1) := by decide +kernel
theorem dX8_fault_0 : decode cX8_fault 0 = .ok (.aload_n 0, 1) := by decide +kernel
theorem dX8_fault_1 : decode cX8_fault 1 = .ok (.iconst 0, 1) := by decide +kernel
theorem dX8_fault_2 : decode cX8_fault 2 = .ok (.putfield 95, 3) := by decide +kernel
theorem dX8_fault_5 : decode cX8_fault 5 = .ok (.aload_n 0, 1) := by decide +kernel
theorem dX8_fault_6 : decode cX8_fault 6 = .ok (.getfield 260, 3) := by decide +kernel
theorem dX8_fault_9 : decode cX8_fault 9 = .ok (.ireturn, 1) := by decide +kernel
set_option maxRecDepth 20000 in
theorem ggX8_owes_X8_isDial : GoodIn wsX8_owes wsX8_isDial := goodIn_r _ [8, 9, 10, 11, 7, 12, 13, 14, 15, 16, 17, 18, 19, 20, 21, 22, 23, 24, 25, 26, 27, 28, 29, 30, 31, 32, 33, 34, 35, 36, 37, 38, 39, 40, 41, 42, 43, 44, 45, 46, 47, 48, 49, 50, 51, 52, 53, 54, 55, 56, 57, 58, 59, 60] (by decide +kernel) (by decide +kernel)
set_option maxRecDepth 20000 in
theorem gX8_owes_X8_isDial : GoodIn wsX8_owes (wsV RX8 157 RX8 yX8_isDial wsX8_isDial) := goodIn_app (goodIn_of _ (by decide +kernel)) ggX8_owes_X8_isDial
theorem dX8_owes_0 : decode cX8_owes 0 = .ok (.aload_n 0, 1) := by decide +kernel
theorem dX8_owes_1 : decode cX8_owes 1 = .ok (.iconst 0, 1) := by decide +kernel
theorem dX8_owes_2 : decode cX8_owes 2 = .ok (.putfield 95, 3) := by decide +kernel
theorem dX8_owes_5 : decode cX8_owes 5 = .ok (.aload_n 0, 1) := by decide +kernel
theorem dX8_owes_6 : decode cX8_owes 6 = .ok (.iload_n 1, 1) := by decide +kernel
theorem dX8_owes_7 : decode cX8_owes 7 = .ok (.invokevirtual 157, 3) := by decide +kernel
theorem dX8_owes_10 : decode cX8_owes 10 = .ok (.ifCond .eq 12, 3) := by decide +kernel
theorem dX8_owes_13 : decode cX8_owes 13 = .ok (.aload_n 0, 1) := by decide +kernel
theorem dX8_owes_14 : decode cX8_owes 14 = .ok (.getfield 62, 3) := by decide +kernel
theorem dX8_owes_17 : decode cX8_owes 17 = .ok (.iload_n 1, 1) := by decide +kernel
theorem dX8_owes_18 : decode cX8_owes 18 = .ok (.iaload, 1) := by decide +kernel
theorem dX8_owes_19 : decode cX8_owes 19 = .ok (.goto 5, 3) := by decide +kernel
theorem dX8_owes_22 : decode cX8_owes 22 = .ok (.ldc 115, 2) := by decide +kernel
theorem dX8_owes_24 : decode cX8_owes 24 = .ok (.ireturn, 1) := by decide +kernel
theorem dX8_kindOf_0 : decode cX8_kindOf 0 = .ok (.aload_n 0, 1) := by decide +kernel
theorem dX8_kindOf_1 : decode cX8_kindOf 1 = .ok (.getfield 37, 3) := by decide +kernel
theorem dX8_kindOf_4 : decode cX8_kindOf 4 = .ok (.iload_n 1, 1) := by decide +kernel
theorem dX8_kindOf_5 : decode cX8_kindOf 5 = .ok (.iaload, 1) := by decide +kernel
theorem dX8_kindOf_6 : decode cX8_kindOf 6 = .ok (.bipush 10, 2) := by decide +kernel
theorem dX8_kindOf_8 : decode cX8_kindOf 8 = .ok (.if_icmp .lt 7, 3) := by decide +kernel
theorem dX8_kindOf_11 : decode cX8_kindOf 11 = .ok (.iconst 3, 1) := by decide +kernel
theorem dX8_kindOf_12 : decode cX8_kindOf 12 = .ok (.goto 9, 3) := by decide +kernel
theorem dX8_kindOf_15 : decode cX8_kindOf 15 = .ok (.aload_n 0, 1) := by decide +kernel
theorem dX8_kindOf_16 : decode cX8_kindOf 16 = .ok (.getfield 31, 3) := by decide +kernel
theorem dX8_kindOf_19 : decode cX8_kindOf 19 = .ok (.iload_n 1, 1) := by decide +kernel
theorem dX8_kindOf_20 : decode cX8_kindOf 20 = .ok (.iaload, 1) := by decide +kernel
theorem dX8_kindOf_21 : decode cX8_kindOf 21 = .ok (.ireturn, 1) := by decide +kernel
set_option maxRecDepth 20000 in
theorem ggX8_kind_X8_isDial : GoodIn wsX8_kind wsX8_isDial := goodIn_r _ [7, 8, 9, 10, 6, 11, 18, 19, 20, 21, 22, 23, 24, 25, 26, 27, 28, 29, 30, 31, 32, 33, 34, 35, 36, 37, 38, 39, 40, 41, 42, 43, 44, 45, 46, 47, 48, 49, 50, 51, 52, 53, 54, 55, 56, 57, 58, 59, 60, 61, 62, 63, 64, 65] (by decide +kernel) (by decide +kernel)
set_option maxRecDepth 20000 in
theorem gX8_kind_X8_isDial : GoodIn wsX8_kind (wsV RX8 157 RX8 yX8_isDial wsX8_isDial) := goodIn_app (goodIn_of _ (by decide +kernel)) ggX8_kind_X8_isDial
set_option maxRecDepth 20000 in
theorem ggX8_kind_X8_kindOf : GoodIn wsX8_kind wsX8_kindOf := goodIn_r _ [15, 16, 17, 18, 19, 20, 21, 22, 23, 24, 25, 26, 27, 28, 29, 30, 31, 32, 33, 34, 35, 36, 37, 38, 39, 40, 41, 42, 43, 44, 45, 46, 47, 48, 49, 50, 51, 52, 53, 54, 55, 56, 57, 58, 59, 60, 61, 62, 63, 64, 65] (by decide +kernel) (by decide +kernel)
set_option maxRecDepth 20000 in
theorem gX8_kind_X8_kindOf : GoodIn wsX8_kind (wsV RX8 171 RX8 yX8_kindOf wsX8_kindOf) := goodIn_app (goodIn_of _ (by decide +kernel)) ggX8_kind_X8_kindOf
theorem dX8_kind_0 : decode cX8_kind 0 = .ok (.aload_n 0, 1) := by decide +kernel
theorem dX8_kind_1 : decode cX8_kind 1 = .ok (.iconst 0, 1) := by decide +kernel
theorem dX8_kind_2 : decode cX8_kind 2 = .ok (.putfield 95, 3) := by decide +kernel
theorem dX8_kind_5 : decode cX8_kind 5 = .ok (.aload_n 0, 1) := by decide +kernel
theorem dX8_kind_6 : decode cX8_kind 6 = .ok (.iload_n 1, 1) := by decide +kernel
theorem dX8_kind_7 : decode cX8_kind 7 = .ok (.invokevirtual 157, 3) := by decide +kernel
theorem dX8_kind_10 : decode cX8_kind 10 = .ok (.ifCond .eq 11, 3) := by decide +kernel
theorem dX8_kind_13 : decode cX8_kind 13 = .ok (.aload_n 0, 1) := by decide +kernel
theorem dX8_kind_14 : decode cX8_kind 14 = .ok (.iload_n 1, 1) := by decide +kernel
theorem dX8_kind_15 : decode cX8_kind 15 = .ok (.invokevirtual 171, 3) := by decide +kernel
theorem dX8_kind_18 : decode cX8_kind 18 = .ok (.goto 5, 3) := by decide +kernel
theorem dX8_kind_21 : decode cX8_kind 21 = .ok (.ldc 115, 2) := by decide +kernel
theorem dX8_kind_23 : decode cX8_kind 23 = .ok (.ireturn, 1) := by decide +kernel
set_option maxRecDepth 20000 in
theorem ggX8_as_X8_isDial : GoodIn wsX8_as wsX8_isDial := goodIn_r _ [10, 11, 12, 13, 9, 14, 21, 22, 23, 24, 25, 26, 27, 28, 29, 30, 31, 32, 33, 34, 35, 36, 37, 38, 39, 40, 41, 42, 43, 44, 45, 46, 47, 48, 49, 50, 51, 52, 53, 54, 55, 56, 57, 58, 59, 60, 61, 62, 63, 64, 65, 66, 67, 68] (by decide +kernel) (by decide +kernel)
set_option maxRecDepth 20000 in
theorem gX8_as_X8_isDial : GoodIn wsX8_as (wsV RX8 157 RX8 yX8_isDial wsX8_isDial) := goodIn_app (goodIn_of _ (by decide +kernel)) ggX8_as_X8_isDial
set_option maxRecDepth 20000 in
theorem ggX8_as_X8_in : GoodIn wsX8_as wsX8_in := goodIn_r _ [14] (by decide +kernel) (by decide +kernel)
set_option maxRecDepth 20000 in
theorem gX8_as_X8_in : GoodIn wsX8_as (va_wsS RX8 102 yX8_in wsX8_in) := goodIn_app (goodIn_of _ (by decide +kernel)) ggX8_as_X8_in
set_option maxRecDepth 20000 in
theorem ggX8_as_X8_kindOf : GoodIn wsX8_as wsX8_kindOf := goodIn_r _ [18, 19, 20, 21, 22, 23, 24, 25, 26, 27, 28, 29, 30, 31, 32, 33, 34, 35, 36, 37, 38, 39, 40, 41, 42, 43, 44, 45, 46, 47, 48, 49, 50, 51, 52, 53, 54, 55, 56, 57, 58, 59, 60, 61, 62, 63, 64, 65, 66, 67, 68] (by decide +kernel) (by decide +kernel)
set_option maxRecDepth 20000 in
theorem gX8_as_X8_kindOf : GoodIn wsX8_as (wsV RX8 171 RX8 yX8_kindOf wsX8_kindOf) := goodIn_app (goodIn_of _ (by decide +kernel)) ggX8_as_X8_kindOf
theorem dX8_as_0 : decode cX8_as 0 = .ok (.aload_n 0, 1) := by decide +kernel
theorem dX8_as_1 : decode cX8_as 1 = .ok (.iconst 0, 1) := by decide +kernel
theorem dX8_as_2 : decode cX8_as 2 = .ok (.putfield 95, 3) := by decide +kernel
theorem dX8_as_5 : decode cX8_as 5 = .ok (.aload_n 0, 1) := by decide +kernel
theorem dX8_as_6 : decode cX8_as 6 = .ok (.iload_n 1, 1) := by decide +kernel
theorem dX8_as_7 : decode cX8_as 7 = .ok (.invokevirtual 157, 3) := by decide +kernel
theorem dX8_as_10 : decode cX8_as 10 = .ok (.ifCond .eq 15, 3) := by decide +kernel
theorem dX8_as_13 : decode cX8_as 13 = .ok (.iload_n 2, 1) := by decide +kernel
theorem dX8_as_14 : decode cX8_as 14 = .ok (.i2l, 1) := by decide +kernel
theorem dX8_as_15 : decode cX8_as 15 = .ok (.lconst 0, 1) := by decide +kernel
theorem dX8_as_16 : decode cX8_as 16 = .ok (.ldc2_w 264, 3) := by decide +kernel
theorem dX8_as_19 : decode cX8_as 19 = .ok (.invokestatic 102, 3) := by decide +kernel
theorem dX8_as_22 : decode cX8_as 22 = .ok (.ifCond .ne 6, 3) := by decide +kernel
theorem dX8_as_25 : decode cX8_as 25 = .ok (.ldc 115, 2) := by decide +kernel
theorem dX8_as_27 : decode cX8_as 27 = .ok (.ireturn, 1) := by decide +kernel
theorem dX8_as_28 : decode cX8_as 28 = .ok (.aload_n 0, 1) := by decide +kernel
theorem dX8_as_29 : decode cX8_as 29 = .ok (.iload_n 1, 1) := by decide +kernel
theorem dX8_as_30 : decode cX8_as 30 = .ok (.invokevirtual 171, 3) := by decide +kernel
theorem dX8_as_33 : decode cX8_as 33 = .ok (.istore_n 3, 1) := by decide +kernel
theorem dX8_as_34 : decode cX8_as 34 = .ok (.iload_n 2, 1) := by decide +kernel
theorem dX8_as_35 : decode cX8_as 35 = .ok (.ifCond .eq 18, 3) := by decide +kernel
theorem dX8_as_38 : decode cX8_as 38 = .ok (.iload_n 3, 1) := by decide +kernel
theorem dX8_as_39 : decode cX8_as 39 = .ok (.iload_n 2, 1) := by decide +kernel
theorem dX8_as_40 : decode cX8_as 40 = .ok (.if_icmp .eq 13, 3) := by decide +kernel
theorem dX8_as_43 : decode cX8_as 43 = .ok (.iload_n 2, 1) := by decide +kernel
theorem dX8_as_44 : decode cX8_as 44 = .ok (.iconst 1, 1) := by decide +kernel
theorem dX8_as_45 : decode cX8_as 45 = .ok (.if_icmp .ne 17, 3) := by decide +kernel
theorem dX8_as_48 : decode cX8_as 48 = .ok (.iload_n 3, 1) := by decide +kernel
theorem dX8_as_49 : decode cX8_as 49 = .ok (.iconst 2, 1) := by decide +kernel
theorem dX8_as_50 : decode cX8_as 50 = .ok (.if_icmp .ne 12, 3) := by decide +kernel
theorem dX8_as_53 : decode cX8_as 53 = .ok (.aload_n 0, 1) := by decide +kernel
theorem dX8_as_54 : decode cX8_as 54 = .ok (.getfield 34, 3) := by decide +kernel
theorem dX8_as_57 : decode cX8_as 57 = .ok (.iload_n 1, 1) := by decide +kernel
theorem dX8_as_58 : decode cX8_as 58 = .ok (.iaload, 1) := by decide +kernel
theorem dX8_as_59 : decode cX8_as 59 = .ok (.goto 5, 3) := by decide +kernel
theorem dX8_as_62 : decode cX8_as 62 = .ok (.ldc 174, 2) := by decide +kernel
theorem dX8_as_64 : decode cX8_as 64 = .ok (.ireturn, 1) := by decide +kernel
theorem dX8_began_0 : decode cX8_began 0 = .ok (.aload_n 0, 1) := by decide +kernel
theorem dX8_began_1 : decode cX8_began 1 = .ok (.getfield 266, 3) := by decide +kernel
theorem dX8_began_4 : decode cX8_began 4 = .ok (.bipush 16, 2) := by decide +kernel
theorem dX8_began_6 : decode cX8_began 6 = .ok (.if_icmp .ge 23, 3) := by decide +kernel
theorem dX8_began_9 : decode cX8_began 9 = .ok (.aload_n 0, 1) := by decide +kernel
theorem dX8_began_10 : decode cX8_began 10 = .ok (.getfield 92, 3) := by decide +kernel
theorem dX8_began_13 : decode cX8_began 13 = .ok (.aload_n 0, 1) := by decide +kernel
theorem dX8_began_14 : decode cX8_began 14 = .ok (.getfield 266, 3) := by decide +kernel
theorem dX8_began_17 : decode cX8_began 17 = .ok (.iload_n 1, 1) := by decide +kernel
theorem dX8_began_18 : decode cX8_began 18 = .ok (.iastore, 1) := by decide +kernel
theorem dX8_began_19 : decode cX8_began 19 = .ok (.aload_n 0, 1) := by decide +kernel
theorem dX8_began_20 : decode cX8_began 20 = .ok (.dup, 1) := by decide +kernel
theorem dX8_began_21 : decode cX8_began 21 = .ok (.getfield 266, 3) := by decide +kernel
theorem dX8_began_24 : decode cX8_began 24 = .ok (.iconst 1, 1) := by decide +kernel
theorem dX8_began_25 : decode cX8_began 25 = .ok (.iadd, 1) := by decide +kernel
theorem dX8_began_26 : decode cX8_began 26 = .ok (.putfield 266, 3) := by decide +kernel
theorem dX8_began_29 : decode cX8_began 29 = .ok (.return_, 1) := by decide +kernel
set_option maxRecDepth 20000 in
theorem ggX8_weight_X8_kindOf : GoodIn wsX8_weight wsX8_kindOf := goodIn_r _ [6, 7, 8, 15, 16, 17, 18, 19, 20, 21, 22, 23, 24, 25, 26, 27, 28, 29, 30, 31, 32, 33, 34, 35, 36, 37, 38, 39, 40, 41, 42, 43, 44, 45, 46, 47, 48, 49, 50, 51, 52, 53, 54, 55, 56, 57, 58, 59, 60, 61, 62] (by decide +kernel) (by decide +kernel)
set_option maxRecDepth 20000 in
theorem gX8_weight_X8_kindOf : GoodIn wsX8_weight (wsV RX8 171 RX8 yX8_kindOf wsX8_kindOf) := goodIn_app (goodIn_of _ (by decide +kernel)) ggX8_weight_X8_kindOf
set_option maxRecDepth 20000 in
theorem ggX8_weight_X8_began : GoodIn wsX8_weight wsX8_began := goodIn_r _ [12, 13, 14, 15, 16, 17, 18, 19, 20, 21, 22, 23, 24, 25, 26, 27, 28, 29, 30, 31, 32, 33, 34, 35, 36, 37, 38, 39, 40, 41, 42, 43, 44, 45, 46, 47, 48, 49, 50, 51, 52, 53, 54, 55, 56, 57, 58, 59, 60, 61, 62] (by decide +kernel) (by decide +kernel)
set_option maxRecDepth 20000 in
theorem gX8_weight_X8_began : GoodIn wsX8_weight (wsV RX8 269 RX8 yX8_began wsX8_began) := goodIn_app (goodIn_of _ (by decide +kernel)) ggX8_weight_X8_began
theorem dX8_weight_0 : decode cX8_weight 0 = .ok (.aload_n 0, 1) := by decide +kernel
theorem dX8_weight_1 : decode cX8_weight 1 = .ok (.iload_n 1, 1) := by decide +kernel
theorem dX8_weight_2 : decode cX8_weight 2 = .ok (.invokevirtual 171, 3) := by decide +kernel
theorem dX8_weight_5 : decode cX8_weight 5 = .ok (.istore_n 2, 1) := by decide +kernel
theorem dX8_weight_6 : decode cX8_weight 6 = .ok (.iload_n 2, 1) := by decide +kernel
theorem dX8_weight_7 : decode cX8_weight 7 = .ok (.iconst 3, 1) := by decide +kernel
theorem dX8_weight_8 : decode cX8_weight 8 = .ok (.if_icmp .ne 9, 3) := by decide +kernel
theorem dX8_weight_11 : decode cX8_weight 11 = .ok (.aload_n 0, 1) := by decide +kernel
theorem dX8_weight_12 : decode cX8_weight 12 = .ok (.bipush 13, 2) := by decide +kernel
theorem dX8_weight_14 : decode cX8_weight 14 = .ok (.invokevirtual 269, 3) := by decide +kernel
theorem dX8_weight_17 : decode cX8_weight 17 = .ok (.iload_n 2, 1) := by decide +kernel
theorem dX8_weight_18 : decode cX8_weight 18 = .ok (.iconst 2, 1) := by decide +kernel
theorem dX8_weight_19 : decode cX8_weight 19 = .ok (.if_icmp .ne 9, 3) := by decide +kernel
theorem dX8_weight_22 : decode cX8_weight 22 = .ok (.aload_n 0, 1) := by decide +kernel
theorem dX8_weight_23 : decode cX8_weight 23 = .ok (.bipush 12, 2) := by decide +kernel
theorem dX8_weight_25 : decode cX8_weight 25 = .ok (.invokevirtual 269, 3) := by decide +kernel
theorem dX8_weight_28 : decode cX8_weight 28 = .ok (.iload_n 2, 1) := by decide +kernel
theorem dX8_weight_29 : decode cX8_weight 29 = .ok (.iconst 1, 1) := by decide +kernel
theorem dX8_weight_30 : decode cX8_weight 30 = .ok (.if_icmp .eq 8, 3) := by decide +kernel
theorem dX8_weight_33 : decode cX8_weight 33 = .ok (.iload_n 2, 1) := by decide +kernel
theorem dX8_weight_34 : decode cX8_weight 34 = .ok (.iconst 2, 1) := by decide +kernel
theorem dX8_weight_35 : decode cX8_weight 35 = .ok (.if_icmp .ne 7, 3) := by decide +kernel
theorem dX8_weight_38 : decode cX8_weight 38 = .ok (.iconst 1, 1) := by decide +kernel
theorem dX8_weight_39 : decode cX8_weight 39 = .ok (.goto 4, 3) := by decide +kernel
theorem dX8_weight_42 : decode cX8_weight 42 = .ok (.iconst 0, 1) := by decide +kernel
theorem dX8_weight_43 : decode cX8_weight 43 = .ok (.istore_n 3, 1) := by decide +kernel
theorem dX8_weight_44 : decode cX8_weight 44 = .ok (.iload_n 3, 1) := by decide +kernel
theorem dX8_weight_45 : decode cX8_weight 45 = .ok (.ifCond .eq 9, 3) := by decide +kernel
theorem dX8_weight_48 : decode cX8_weight 48 = .ok (.aload_n 0, 1) := by decide +kernel
theorem dX8_weight_49 : decode cX8_weight 49 = .ok (.bipush 11, 2) := by decide +kernel
theorem dX8_weight_51 : decode cX8_weight 51 = .ok (.invokevirtual 269, 3) := by decide +kernel
theorem dX8_weight_54 : decode cX8_weight 54 = .ok (.aload_n 0, 1) := by decide +kernel
theorem dX8_weight_55 : decode cX8_weight 55 = .ok (.bipush 10, 2) := by decide +kernel
theorem dX8_weight_57 : decode cX8_weight 57 = .ok (.invokevirtual 269, 3) := by decide +kernel
theorem dX8_weight_60 : decode cX8_weight 60 = .ok (.aload_n 0, 1) := by decide +kernel
theorem dX8_weight_61 : decode cX8_weight 61 = .ok (.getfield 34, 3) := by decide +kernel
theorem dX8_weight_64 : decode cX8_weight 64 = .ok (.iload_n 1, 1) := by decide +kernel
theorem dX8_weight_65 : decode cX8_weight 65 = .ok (.iaload, 1) := by decide +kernel
theorem dX8_weight_66 : decode cX8_weight 66 = .ok (.istore 4, 2) := by decide +kernel
theorem dX8_weight_68 : decode cX8_weight 68 = .ok (.iload_n 2, 1) := by decide +kernel
theorem dX8_weight_69 : decode cX8_weight 69 = .ok (.iconst 3, 1) := by decide +kernel
theorem dX8_weight_70 : decode cX8_weight 70 = .ok (.if_icmp .ne 9, 3) := by decide +kernel
theorem dX8_weight_73 : decode cX8_weight 73 = .ok (.iload 4, 2) := by decide +kernel
theorem dX8_weight_75 : decode cX8_weight 75 = .ok (.ineg, 1) := by decide +kernel
theorem dX8_weight_76 : decode cX8_weight 76 = .ok (.goto 32, 3) := by decide +kernel
theorem dX8_weight_79 : decode cX8_weight 79 = .ok (.iload_n 3, 1) := by decide +kernel
theorem dX8_weight_80 : decode cX8_weight 80 = .ok (.ifCond .ne 8, 3) := by decide +kernel
theorem dX8_weight_83 : decode cX8_weight 83 = .ok (.iload 4, 2) := by decide +kernel
theorem dX8_weight_85 : decode cX8_weight 85 = .ok (.goto 23, 3) := by decide +kernel
theorem dX8_weight_88 : decode cX8_weight 88 = .ok (.iload_n 2, 1) := by decide +kernel
theorem dX8_weight_89 : decode cX8_weight 89 = .ok (.iconst 2, 1) := by decide +kernel
theorem dX8_weight_90 : decode cX8_weight 90 = .ok (.if_icmp .ne 13, 3) := by decide +kernel
theorem dX8_weight_93 : decode cX8_weight 93 = .ok (.iconst 2, 1) := by decide +kernel
theorem dX8_weight_94 : decode cX8_weight 94 = .ok (.iload 4, 2) := by decide +kernel
theorem dX8_weight_96 : decode cX8_weight 96 = .ok (.bipush 10, 2) := by decide +kernel
theorem dX8_weight_98 : decode cX8_weight 98 = .ok (.iadd, 1) := by decide +kernel
theorem dX8_weight_99 : decode cX8_weight 99 = .ok (.imul, 1) := by decide +kernel
theorem dX8_weight_100 : decode cX8_weight 100 = .ok (.goto 8, 3) := by decide +kernel
theorem dX8_weight_103 : decode cX8_weight 103 = .ok (.iload 4, 2) := by decide +kernel
theorem dX8_weight_105 : decode cX8_weight 105 = .ok (.bipush 10, 2) := by decide +kernel
theorem dX8_weight_107 : decode cX8_weight 107 = .ok (.iadd, 1) := by decide +kernel
theorem dX8_weight_108 : decode cX8_weight 108 = .ok (.ireturn, 1) := by decide +kernel
set_option maxRecDepth 20000 in
theorem ggX8_marked_X8_kindOf : GoodIn wsX8_marked wsX8_kindOf := goodIn_r _ [6, 7, 8, 20, 21, 22, 23, 24, 25, 26, 27, 28, 29, 30, 31, 32, 33, 34, 35, 36, 37, 38, 39, 40, 41, 42, 43, 44, 45, 46, 47, 48, 49, 50, 51, 52, 53, 54, 55, 56, 57, 58, 59, 60, 61, 62, 63, 64, 65, 66, 67] (by decide +kernel) (by decide +kernel)
set_option maxRecDepth 20000 in
theorem gX8_marked_X8_kindOf : GoodIn wsX8_marked (wsV RX8 171 RX8 yX8_kindOf wsX8_kindOf) := goodIn_app (goodIn_of _ (by decide +kernel)) ggX8_marked_X8_kindOf
set_option maxRecDepth 20000 in
theorem ggX8_marked_X8_began : GoodIn wsX8_marked wsX8_began := goodIn_r _ [12, 13, 14, 20, 21, 22, 23, 24, 25, 26, 27, 28, 29, 30, 31, 32, 33, 34, 35, 36, 37, 38, 39, 40, 41, 42, 43, 44, 45, 46, 47, 48, 49, 50, 51, 52, 53, 54, 55, 56, 57, 58, 59, 60, 61, 62, 63, 64, 65, 66, 67] (by decide +kernel) (by decide +kernel)
set_option maxRecDepth 20000 in
theorem gX8_marked_X8_began : GoodIn wsX8_marked (wsV RX8 269 RX8 yX8_began wsX8_began) := goodIn_app (goodIn_of _ (by decide +kernel)) ggX8_marked_X8_began
set_option maxRecDepth 20000 in
theorem ggX8_marked_X8_weight : GoodIn wsX8_marked wsX8_weight := goodIn_r _ [18, 19, 2, 3, 4, 5, 6, 7, 8, 9, 10, 11, 12, 13, 14, 20, 21, 22, 23, 24, 25, 26, 27, 28, 29, 30, 31, 32, 33, 34, 35, 36, 37, 38, 39, 40, 41, 42, 43, 44, 45, 46, 47, 48, 49, 50, 51, 52, 53, 54, 55, 56, 57, 58, 59, 60, 61, 62, 63, 64, 65, 66, 67] (by decide +kernel) (by decide +kernel)
set_option maxRecDepth 20000 in
theorem gX8_marked_X8_weight : GoodIn wsX8_marked (wsV RX8 272 RX8 yX8_weight wsX8_weight) := goodIn_app (goodIn_of _ (by decide +kernel)) ggX8_marked_X8_weight
theorem dX8_marked_0 : decode cX8_marked 0 = .ok (.aload_n 0, 1) := by decide +kernel
theorem dX8_marked_1 : decode cX8_marked 1 = .ok (.iload_n 1, 1) := by decide +kernel
theorem dX8_marked_2 : decode cX8_marked 2 = .ok (.invokevirtual 171, 3) := by decide +kernel
theorem dX8_marked_5 : decode cX8_marked 5 = .ok (.istore_n 2, 1) := by decide +kernel
theorem dX8_marked_6 : decode cX8_marked 6 = .ok (.iload_n 2, 1) := by decide +kernel
theorem dX8_marked_7 : decode cX8_marked 7 = .ok (.iconst 1, 1) := by decide +kernel
theorem dX8_marked_8 : decode cX8_marked 8 = .ok (.if_icmp .eq 8, 3) := by decide +kernel
theorem dX8_marked_11 : decode cX8_marked 11 = .ok (.iload_n 2, 1) := by decide +kernel
theorem dX8_marked_12 : decode cX8_marked 12 = .ok (.iconst 2, 1) := by decide +kernel
theorem dX8_marked_13 : decode cX8_marked 13 = .ok (.if_icmp .ne 7, 3) := by decide +kernel
theorem dX8_marked_16 : decode cX8_marked 16 = .ok (.iconst 1, 1) := by decide +kernel
theorem dX8_marked_17 : decode cX8_marked 17 = .ok (.goto 4, 3) := by decide +kernel
theorem dX8_marked_20 : decode cX8_marked 20 = .ok (.iconst 0, 1) := by decide +kernel
theorem dX8_marked_21 : decode cX8_marked 21 = .ok (.istore_n 3, 1) := by decide +kernel
theorem dX8_marked_22 : decode cX8_marked 22 = .ok (.iload_n 2, 1) := by decide +kernel
theorem dX8_marked_23 : decode cX8_marked 23 = .ok (.iconst 3, 1) := by decide +kernel
theorem dX8_marked_24 : decode cX8_marked 24 = .ok (.if_icmp .ne 9, 3) := by decide +kernel
theorem dX8_marked_27 : decode cX8_marked 27 = .ok (.aload_n 0, 1) := by decide +kernel
theorem dX8_marked_28 : decode cX8_marked 28 = .ok (.bipush 22, 2) := by decide +kernel
theorem dX8_marked_30 : decode cX8_marked 30 = .ok (.invokevirtual 269, 3) := by decide +kernel
theorem dX8_marked_33 : decode cX8_marked 33 = .ok (.iload_n 3, 1) := by decide +kernel
theorem dX8_marked_34 : decode cX8_marked 34 = .ok (.ifCond .eq 9, 3) := by decide +kernel
theorem dX8_marked_37 : decode cX8_marked 37 = .ok (.aload_n 0, 1) := by decide +kernel
theorem dX8_marked_38 : decode cX8_marked 38 = .ok (.bipush 21, 2) := by decide +kernel
theorem dX8_marked_40 : decode cX8_marked 40 = .ok (.invokevirtual 269, 3) := by decide +kernel
theorem dX8_marked_43 : decode cX8_marked 43 = .ok (.aload_n 0, 1) := by decide +kernel
theorem dX8_marked_44 : decode cX8_marked 44 = .ok (.bipush 20, 2) := by decide +kernel
theorem dX8_marked_46 : decode cX8_marked 46 = .ok (.invokevirtual 269, 3) := by decide +kernel
theorem dX8_marked_49 : decode cX8_marked 49 = .ok (.aload_n 0, 1) := by decide +kernel
theorem dX8_marked_50 : decode cX8_marked 50 = .ok (.getfield 28, 3) := by decide +kernel
theorem dX8_marked_53 : decode cX8_marked 53 = .ok (.iload_n 1, 1) := by decide +kernel
theorem dX8_marked_54 : decode cX8_marked 54 = .ok (.iaload, 1) := by decide +kernel
theorem dX8_marked_55 : decode cX8_marked 55 = .ok (.iload_n 2, 1) := by decide +kernel
theorem dX8_marked_56 : decode cX8_marked 56 = .ok (.iconst 3, 1) := by decide +kernel
theorem dX8_marked_57 : decode cX8_marked 57 = .ok (.if_icmp .ne 9, 3) := by decide +kernel
theorem dX8_marked_60 : decode cX8_marked 60 = .ok (.sipush 1000, 3) := by decide +kernel
theorem dX8_marked_63 : decode cX8_marked 63 = .ok (.goto 16, 3) := by decide +kernel
theorem dX8_marked_66 : decode cX8_marked 66 = .ok (.iload_n 3, 1) := by decide +kernel
theorem dX8_marked_67 : decode cX8_marked 67 = .ok (.ifCond .eq 11, 3) := by decide +kernel
theorem dX8_marked_70 : decode cX8_marked 70 = .ok (.aload_n 0, 1) := by decide +kernel
theorem dX8_marked_71 : decode cX8_marked 71 = .ok (.iload_n 1, 1) := by decide +kernel
theorem dX8_marked_72 : decode cX8_marked 72 = .ok (.invokevirtual 272, 3) := by decide +kernel
theorem dX8_marked_75 : decode cX8_marked 75 = .ok (.goto 4, 3) := by decide +kernel
theorem dX8_marked_78 : decode cX8_marked 78 = .ok (.iconst 0, 1) := by decide +kernel
theorem dX8_marked_79 : decode cX8_marked 79 = .ok (.iadd, 1) := by decide +kernel
theorem dX8_marked_80 : decode cX8_marked 80 = .ok (.ireturn, 1) := by decide +kernel
set_option maxRecDepth 20000 in
theorem ggX8_ask_X8_isDial : GoodIn wsX8_ask wsX8_isDial := goodIn_r _ [8, 9, 10, 11, 7, 12, 34, 35, 36, 37, 38, 39, 40, 41, 42, 43, 44, 45, 46, 47, 48, 49, 50, 51, 52, 53, 54, 55, 56, 57, 58, 59, 60, 61, 62, 63, 64, 65, 66, 67, 68, 69, 70, 71, 72, 73, 74, 75, 76, 77, 78, 79, 80, 81] (by decide +kernel) (by decide +kernel)
set_option maxRecDepth 20000 in
theorem gX8_ask_X8_isDial : GoodIn wsX8_ask (wsV RX8 157 RX8 yX8_isDial wsX8_isDial) := goodIn_app (goodIn_of _ (by decide +kernel)) ggX8_ask_X8_isDial
set_option maxRecDepth 20000 in
theorem ggX8_ask_X8_in : GoodIn wsX8_ask wsX8_in := goodIn_r _ [12] (by decide +kernel) (by decide +kernel)
set_option maxRecDepth 20000 in
theorem gX8_ask_X8_in : GoodIn wsX8_ask (va_wsS RX8 102 yX8_in wsX8_in) := goodIn_app (goodIn_of _ (by decide +kernel)) ggX8_ask_X8_in
set_option maxRecDepth 20000 in
theorem ggX8_ask_X8_weight : GoodIn wsX8_ask wsX8_weight := goodIn_r _ [16, 17, 18, 19, 20, 7, 21, 22, 23, 24, 25, 26, 27, 3, 28, 34, 35, 36, 37, 38, 39, 40, 41, 42, 43, 44, 45, 46, 47, 48, 49, 50, 51, 52, 53, 54, 55, 56, 57, 58, 59, 60, 61, 62, 63, 64, 65, 66, 67, 68, 69, 70, 71, 72, 73, 74, 75, 76, 77, 78, 79, 80, 81] (by decide +kernel) (by decide +kernel)
set_option maxRecDepth 20000 in
theorem gX8_ask_X8_weight : GoodIn wsX8_ask (wsV RX8 272 RX8 yX8_weight wsX8_weight) := goodIn_app (goodIn_of _ (by decide +kernel)) ggX8_ask_X8_weight
set_option maxRecDepth 20000 in
theorem ggX8_ask_X8_marked : GoodIn wsX8_ask wsX8_marked := goodIn_r _ [32, 33, 18, 19, 20, 7, 21, 22, 23, 24, 25, 26, 27, 3, 28, 13, 14, 15, 16, 17, 34, 35, 36, 37, 38, 39, 40, 41, 42, 43, 44, 45, 46, 47, 48, 49, 50, 51, 52, 53, 54, 55, 56, 57, 58, 59, 60, 61, 62, 63, 64, 65, 66, 67, 68, 69, 70, 71, 72, 73, 74, 75, 76, 77, 78, 79, 80, 81] (by decide +kernel) (by decide +kernel)
set_option maxRecDepth 20000 in
theorem gX8_ask_X8_marked : GoodIn wsX8_ask (wsV RX8 275 RX8 yX8_marked wsX8_marked) := goodIn_app (goodIn_of _ (by decide +kernel)) ggX8_ask_X8_marked
theorem dX8_ask_0 : decode cX8_ask 0 = .ok (.aload_n 0, 1) := by decide +kernel
theorem dX8_ask_1 : decode cX8_ask 1 = .ok (.iconst 0, 1) := by decide +kernel
theorem dX8_ask_2 : decode cX8_ask 2 = .ok (.putfield 95, 3) := by decide +kernel
theorem dX8_ask_5 : decode cX8_ask 5 = .ok (.aload_n 0, 1) := by decide +kernel
theorem dX8_ask_6 : decode cX8_ask 6 = .ok (.iload_n 1, 1) := by decide +kernel
theorem dX8_ask_7 : decode cX8_ask 7 = .ok (.invokevirtual 157, 3) := by decide +kernel
theorem dX8_ask_10 : decode cX8_ask 10 = .ok (.ifCond .eq 13, 3) := by decide +kernel
theorem dX8_ask_13 : decode cX8_ask 13 = .ok (.iload_n 2, 1) := by decide +kernel
theorem dX8_ask_14 : decode cX8_ask 14 = .ok (.i2l, 1) := by decide +kernel
theorem dX8_ask_15 : decode cX8_ask 15 = .ok (.lconst 0, 1) := by decide +kernel
theorem dX8_ask_16 : decode cX8_ask 16 = .ok (.lconst 1, 1) := by decide +kernel
theorem dX8_ask_17 : decode cX8_ask 17 = .ok (.invokestatic 102, 3) := by decide +kernel
theorem dX8_ask_20 : decode cX8_ask 20 = .ok (.ifCond .ne 6, 3) := by decide +kernel
theorem dX8_ask_23 : decode cX8_ask 23 = .ok (.ldc 115, 2) := by decide +kernel
theorem dX8_ask_25 : decode cX8_ask 25 = .ok (.ireturn, 1) := by decide +kernel
theorem dX8_ask_26 : decode cX8_ask 26 = .ok (.aload_n 0, 1) := by decide +kernel
theorem dX8_ask_27 : decode cX8_ask 27 = .ok (.iconst 0, 1) := by decide +kernel
theorem dX8_ask_28 : decode cX8_ask 28 = .ok (.putfield 266, 3) := by decide +kernel
theorem dX8_ask_31 : decode cX8_ask 31 = .ok (.iload_n 2, 1) := by decide +kernel
theorem dX8_ask_32 : decode cX8_ask 32 = .ok (.ifCond .ne 11, 3) := by decide +kernel
theorem dX8_ask_35 : decode cX8_ask 35 = .ok (.aload_n 0, 1) := by decide +kernel
theorem dX8_ask_36 : decode cX8_ask 36 = .ok (.iload_n 1, 1) := by decide +kernel
theorem dX8_ask_37 : decode cX8_ask 37 = .ok (.invokevirtual 272, 3) := by decide +kernel
theorem dX8_ask_40 : decode cX8_ask 40 = .ok (.goto 8, 3) := by decide +kernel
theorem dX8_ask_43 : decode cX8_ask 43 = .ok (.aload_n 0, 1) := by decide +kernel
theorem dX8_ask_44 : decode cX8_ask 44 = .ok (.iload_n 1, 1) := by decide +kernel
theorem dX8_ask_45 : decode cX8_ask 45 = .ok (.invokevirtual 275, 3) := by decide +kernel
theorem dX8_ask_48 : decode cX8_ask 48 = .ok (.ireturn, 1) := by decide +kernel
set_option maxRecDepth 20000 in
theorem ggX8_trace_X8_in : GoodIn wsX8_trace wsX8_in := goodIn_r _ [8] (by decide +kernel) (by decide +kernel)
set_option maxRecDepth 20000 in
theorem gX8_trace_X8_in : GoodIn wsX8_trace (va_wsS RX8 102 yX8_in wsX8_in) := goodIn_app (goodIn_of _ (by decide +kernel)) ggX8_trace_X8_in
theorem dX8_trace_0 : decode cX8_trace 0 = .ok (.aload_n 0, 1) := by decide +kernel
theorem dX8_trace_1 : decode cX8_trace 1 = .ok (.iconst 0, 1) := by decide +kernel
theorem dX8_trace_2 : decode cX8_trace 2 = .ok (.putfield 95, 3) := by decide +kernel
theorem dX8_trace_5 : decode cX8_trace 5 = .ok (.iload_n 1, 1) := by decide +kernel
theorem dX8_trace_6 : decode cX8_trace 6 = .ok (.i2l, 1) := by decide +kernel
theorem dX8_trace_7 : decode cX8_trace 7 = .ok (.lconst 0, 1) := by decide +kernel
theorem dX8_trace_8 : decode cX8_trace 8 = .ok (.aload_n 0, 1) := by decide +kernel
theorem dX8_trace_9 : decode cX8_trace 9 = .ok (.getfield 266, 3) := by decide +kernel
theorem dX8_trace_12 : decode cX8_trace 12 = .ok (.iconst 1, 1) := by decide +kernel
theorem dX8_trace_13 : decode cX8_trace 13 = .ok (.isub, 1) := by decide +kernel
theorem dX8_trace_14 : decode cX8_trace 14 = .ok (.i2l, 1) := by decide +kernel
theorem dX8_trace_15 : decode cX8_trace 15 = .ok (.invokestatic 102, 3) := by decide +kernel
theorem dX8_trace_18 : decode cX8_trace 18 = .ok (.ifCond .eq 12, 3) := by decide +kernel
theorem dX8_trace_21 : decode cX8_trace 21 = .ok (.aload_n 0, 1) := by decide +kernel
theorem dX8_trace_22 : decode cX8_trace 22 = .ok (.getfield 92, 3) := by decide +kernel
theorem dX8_trace_25 : decode cX8_trace 25 = .ok (.iload_n 1, 1) := by decide +kernel
theorem dX8_trace_26 : decode cX8_trace 26 = .ok (.iaload, 1) := by decide +kernel
theorem dX8_trace_27 : decode cX8_trace 27 = .ok (.goto 5, 3) := by decide +kernel
theorem dX8_trace_30 : decode cX8_trace 30 = .ok (.ldc 106, 2) := by decide +kernel
theorem dX8_trace_32 : decode cX8_trace 32 = .ok (.ireturn, 1) := by decide +kernel
set_option maxRecDepth 20000 in
theorem ggX8_count_X8_in : GoodIn wsX8_count wsX8_in := goodIn_r _ [13] (by decide +kernel) (by decide +kernel)
set_option maxRecDepth 20000 in
theorem gX8_count_X8_in : GoodIn wsX8_count (va_wsS RX8 102 yX8_in wsX8_in) := goodIn_app (goodIn_of _ (by decide +kernel)) ggX8_count_X8_in
set_option maxRecDepth 20000 in
theorem ggX8_count_X8_kindOf : GoodIn wsX8_count wsX8_kindOf := goodIn_r _ [17, 18, 19, 23, 24, 25, 26, 27, 28, 29, 30, 31, 32, 33, 34, 35, 36, 37, 38, 39, 40, 41, 42, 43, 44, 45, 46, 47, 48, 49, 50, 51, 52, 53, 54, 55, 56, 57, 58, 59, 60, 61, 62, 63, 64, 65, 66, 67, 68, 69, 70] (by decide +kernel) (by decide +kernel)
set_option maxRecDepth 20000 in
theorem gX8_count_X8_kindOf : GoodIn wsX8_count (wsV RX8 171 RX8 yX8_kindOf wsX8_kindOf) := goodIn_app (goodIn_of _ (by decide +kernel)) ggX8_count_X8_kindOf
set_option maxRecDepth 20000 in
theorem ggX8_count_X8_size : GoodIn wsX8_count wsX8_size := goodIn_r _ [22] (by decide +kernel) (by decide +kernel)
set_option maxRecDepth 20000 in
theorem gX8_count_X8_size : GoodIn wsX8_count (va_wsS RX8 168 yX8_size wsX8_size) := goodIn_app (goodIn_of _ (by decide +kernel)) ggX8_count_X8_size
theorem dX8_count_0 : decode cX8_count 0 = .ok (.aload_n 0, 1) := by decide +kernel
theorem dX8_count_1 : decode cX8_count 1 = .ok (.iconst 0, 1) := by decide +kernel
theorem dX8_count_2 : decode cX8_count 2 = .ok (.putfield 95, 3) := by decide +kernel
theorem dX8_count_5 : decode cX8_count 5 = .ok (.iload_n 1, 1) := by decide +kernel
theorem dX8_count_6 : decode cX8_count 6 = .ok (.i2l, 1) := by decide +kernel
theorem dX8_count_7 : decode cX8_count 7 = .ok (.lconst 0, 1) := by decide +kernel
theorem dX8_count_8 : decode cX8_count 8 = .ok (.ldc2_w 278, 3) := by decide +kernel
theorem dX8_count_11 : decode cX8_count 11 = .ok (.invokestatic 102, 3) := by decide +kernel
theorem dX8_count_14 : decode cX8_count 14 = .ok (.ifCond .ne 6, 3) := by decide +kernel
theorem dX8_count_17 : decode cX8_count 17 = .ok (.ldc 115, 2) := by decide +kernel
theorem dX8_count_19 : decode cX8_count 19 = .ok (.ireturn, 1) := by decide +kernel
theorem dX8_count_20 : decode cX8_count 20 = .ok (.iload_n 1, 1) := by decide +kernel
theorem dX8_count_21 : decode cX8_count 21 = .ok (.ifCond .eq 14, 3) := by decide +kernel
theorem dX8_count_24 : decode cX8_count 24 = .ok (.iload_n 1, 1) := by decide +kernel
theorem dX8_count_25 : decode cX8_count 25 = .ok (.iconst 1, 1) := by decide +kernel
theorem dX8_count_26 : decode cX8_count 26 = .ok (.if_icmp .eq 9, 3) := by decide +kernel
theorem dX8_count_29 : decode cX8_count 29 = .ok (.iload_n 1, 1) := by decide +kernel
theorem dX8_count_30 : decode cX8_count 30 = .ok (.bipush 7, 2) := by decide +kernel
theorem dX8_count_32 : decode cX8_count 32 = .ok (.if_icmp .ne 31, 3) := by decide +kernel
theorem dX8_count_35 : decode cX8_count 35 = .ok (.iload_n 1, 1) := by decide +kernel
theorem dX8_count_36 : decode cX8_count 36 = .ok (.ifCond .ne 10, 3) := by decide +kernel
theorem dX8_count_39 : decode cX8_count 39 = .ok (.aload_n 0, 1) := by decide +kernel
theorem dX8_count_40 : decode cX8_count 40 = .ok (.getfield 99, 3) := by decide +kernel
theorem dX8_count_43 : decode cX8_count 43 = .ok (.goto 19, 3) := by decide +kernel
theorem dX8_count_46 : decode cX8_count 46 = .ok (.iload_n 1, 1) := by decide +kernel
theorem dX8_count_47 : decode cX8_count 47 = .ok (.iconst 1, 1) := by decide +kernel
theorem dX8_count_48 : decode cX8_count 48 = .ok (.if_icmp .ne 10, 3) := by decide +kernel
theorem dX8_count_51 : decode cX8_count 51 = .ok (.aload_n 0, 1) := by decide +kernel
theorem dX8_count_52 : decode cX8_count 52 = .ok (.getfield 128, 3) := by decide +kernel
theorem dX8_count_55 : decode cX8_count 55 = .ok (.goto 7, 3) := by decide +kernel
theorem dX8_count_58 : decode cX8_count 58 = .ok (.aload_n 0, 1) := by decide +kernel
theorem dX8_count_59 : decode cX8_count 59 = .ok (.getfield 191, 3) := by decide +kernel
theorem dX8_count_62 : decode cX8_count 62 = .ok (.ireturn, 1) := by decide +kernel
theorem dX8_count_63 : decode cX8_count 63 = .ok (.iconst 0, 1) := by decide +kernel
theorem dX8_count_64 : decode cX8_count 64 = .ok (.istore_n 2, 1) := by decide +kernel
theorem dX8_count_65 : decode cX8_count 65 = .ok (.iconst 0, 1) := by decide +kernel
theorem dX8_count_66 : decode cX8_count 66 = .ok (.istore_n 3, 1) := by decide +kernel
theorem dX8_count_67 : decode cX8_count 67 = .ok (.iload_n 3, 1) := by decide +kernel
theorem dX8_count_68 : decode cX8_count 68 = .ok (.aload_n 0, 1) := by decide +kernel
theorem dX8_count_69 : decode cX8_count 69 = .ok (.getfield 128, 3) := by decide +kernel
theorem dX8_count_72 : decode cX8_count 72 = .ok (.if_icmp .ge 121, 3) := by decide +kernel
theorem dX8_count_75 : decode cX8_count 75 = .ok (.aload_n 0, 1) := by decide +kernel
theorem dX8_count_76 : decode cX8_count 76 = .ok (.iload_n 3, 1) := by decide +kernel
theorem dX8_count_77 : decode cX8_count 77 = .ok (.invokevirtual 171, 3) := by decide +kernel
theorem dX8_count_80 : decode cX8_count 80 = .ok (.istore 4, 2) := by decide +kernel
theorem dX8_count_82 : decode cX8_count 82 = .ok (.iload_n 1, 1) := by decide +kernel
theorem dX8_count_83 : decode cX8_count 83 = .ok (.iconst 2, 1) := by decide +kernel
theorem dX8_count_84 : decode cX8_count 84 = .ok (.if_icmp .ne 23, 3) := by decide +kernel
theorem dX8_count_87 : decode cX8_count 87 = .ok (.iload 4, 2) := by decide +kernel
theorem dX8_count_89 : decode cX8_count 89 = .ok (.iconst 1, 1) := by decide +kernel
theorem dX8_count_90 : decode cX8_count 90 = .ok (.if_icmp .eq 9, 3) := by decide +kernel
theorem dX8_count_93 : decode cX8_count 93 = .ok (.iload 4, 2) := by decide +kernel
theorem dX8_count_95 : decode cX8_count 95 = .ok (.iconst 2, 1) := by decide +kernel
theorem dX8_count_96 : decode cX8_count 96 = .ok (.if_icmp .ne 7, 3) := by decide +kernel
theorem dX8_count_99 : decode cX8_count 99 = .ok (.iconst 1, 1) := by decide +kernel
theorem dX8_count_100 : decode cX8_count 100 = .ok (.goto 54, 3) := by decide +kernel
theorem dX8_count_103 : decode cX8_count 103 = .ok (.iconst 0, 1) := by decide +kernel
theorem dX8_count_104 : decode cX8_count 104 = .ok (.goto 50, 3) := by decide +kernel
theorem dX8_count_107 : decode cX8_count 107 = .ok (.iload_n 1, 1) := by decide +kernel
theorem dX8_count_108 : decode cX8_count 108 = .ok (.iconst 3, 1) := by decide +kernel
theorem dX8_count_109 : decode cX8_count 109 = .ok (.if_icmp .ne 17, 3) := by decide +kernel
theorem dX8_count_112 : decode cX8_count 112 = .ok (.iload 4, 2) := by decide +kernel
theorem dX8_count_114 : decode cX8_count 114 = .ok (.iconst 3, 1) := by decide +kernel
theorem dX8_count_115 : decode cX8_count 115 = .ok (.if_icmp .ne 7, 3) := by decide +kernel
theorem dX8_count_118 : decode cX8_count 118 = .ok (.iconst 1, 1) := by decide +kernel
theorem dX8_count_119 : decode cX8_count 119 = .ok (.goto 35, 3) := by decide +kernel
theorem dX8_count_122 : decode cX8_count 122 = .ok (.iconst 0, 1) := by decide +kernel
theorem dX8_count_123 : decode cX8_count 123 = .ok (.goto 31, 3) := by decide +kernel
theorem dX8_count_126 : decode cX8_count 126 = .ok (.iload_n 1, 1) := by decide +kernel
theorem dX8_count_127 : decode cX8_count 127 = .ok (.iconst 4, 1) := by decide +kernel
theorem dX8_count_128 : decode cX8_count 128 = .ok (.if_icmp .ne 12, 3) := by decide +kernel
theorem dX8_count_131 : decode cX8_count 131 = .ok (.aload_n 0, 1) := by decide +kernel
theorem dX8_count_132 : decode cX8_count 132 = .ok (.getfield 46, 3) := by decide +kernel
theorem dX8_count_135 : decode cX8_count 135 = .ok (.iload_n 3, 1) := by decide +kernel
theorem dX8_count_136 : decode cX8_count 136 = .ok (.baload, 1) := by decide +kernel
theorem dX8_count_137 : decode cX8_count 137 = .ok (.goto 17, 3) := by decide +kernel
theorem dX8_count_140 : decode cX8_count 140 = .ok (.aload_n 0, 1) := by decide +kernel
theorem dX8_count_141 : decode cX8_count 141 = .ok (.getfield 53, 3) := by decide +kernel
theorem dX8_count_144 : decode cX8_count 144 = .ok (.iload_n 3, 1) := by decide +kernel
theorem dX8_count_145 : decode cX8_count 145 = .ok (.iaload, 1) := by decide +kernel
theorem dX8_count_146 : decode cX8_count 146 = .ok (.ifCond .le 7, 3) := by decide +kernel
theorem dX8_count_149 : decode cX8_count 149 = .ok (.iconst 1, 1) := by decide +kernel
theorem dX8_count_150 : decode cX8_count 150 = .ok (.goto 4, 3) := by decide +kernel
theorem dX8_count_153 : decode cX8_count 153 = .ok (.iconst 0, 1) := by decide +kernel
theorem dX8_count_154 : decode cX8_count 154 = .ok (.istore 5, 2) := by decide +kernel
theorem dX8_count_156 : decode cX8_count 156 = .ok (.iload_n 2, 1) := by decide +kernel
theorem dX8_count_157 : decode cX8_count 157 = .ok (.iload_n 1, 1) := by decide +kernel
theorem dX8_count_158 : decode cX8_count 158 = .ok (.bipush 6, 2) := by decide +kernel
theorem dX8_count_160 : decode cX8_count 160 = .ok (.if_icmp .ne 15, 3) := by decide +kernel
theorem dX8_count_163 : decode cX8_count 163 = .ok (.aload_n 0, 1) := by decide +kernel
theorem dX8_count_164 : decode cX8_count 164 = .ok (.getfield 34, 3) := by decide +kernel
theorem dX8_count_167 : decode cX8_count 167 = .ok (.iload_n 3, 1) := by decide +kernel
theorem dX8_count_168 : decode cX8_count 168 = .ok (.iaload, 1) := by decide +kernel
theorem dX8_count_169 : decode cX8_count 169 = .ok (.invokestatic 168, 3) := by decide +kernel
theorem dX8_count_172 : decode cX8_count 172 = .ok (.goto 13, 3) := by decide +kernel
theorem dX8_count_175 : decode cX8_count 175 = .ok (.iload 5, 2) := by decide +kernel
theorem dX8_count_177 : decode cX8_count 177 = .ok (.ifCond .eq 7, 3) := by decide +kernel
theorem dX8_count_180 : decode cX8_count 180 = .ok (.iconst 1, 1) := by decide +kernel
theorem dX8_count_181 : decode cX8_count 181 = .ok (.goto 4, 3) := by decide +kernel
theorem dX8_count_184 : decode cX8_count 184 = .ok (.iconst 0, 1) := by decide +kernel
theorem dX8_count_185 : decode cX8_count 185 = .ok (.iadd, 1) := by decide +kernel
theorem dX8_count_186 : decode cX8_count 186 = .ok (.istore_n 2, 1) := by decide +kernel
theorem dX8_count_187 : decode cX8_count 187 = .ok (.iinc 3 1, 3) := by decide +kernel
theorem dX8_count_190 : decode cX8_count 190 = .ok (.goto (-123), 3) := by decide +kernel
theorem dX8_count_193 : decode cX8_count 193 = .ok (.iload_n 2, 1) := by decide +kernel
theorem dX8_count_194 : decode cX8_count 194 = .ok (.ireturn, 1) := by decide +kernel
